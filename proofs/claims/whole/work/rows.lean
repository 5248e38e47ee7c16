section
-- ===== PART A: goes FIRST, ahead of the names: the tables' words, and 'selects' of the private methods out of them =====
/-- a private method of a class that the tables say can be made, by its rows of tables_1 -/
def lw_okq (q : MethodName × Nat) : Prop := (q.1.cls ≠ "java/lang/invoke/MethodHandle" ∧ q.1.cls ≠ "java/lang/invoke/VarHandle") ∧ Cond.instantiable q.1.cls q.2 ∈ tables_1 ∧ Cond.privateMethod q.1 ∈ tables_1 ∧ Cond.instanceMethod q.1 ∈ tables_1
theorem lw_p0 : lw_okq (⟨"HotEditions", "isInBatch", "(I)Z"⟩, 8) := ⟨⟨by decide +kernel, by decide +kernel⟩, List.mem_of_getElem? (i := 16) (by decide +kernel), List.mem_of_getElem? (i := 473) (by decide +kernel), List.mem_of_getElem? (i := 474) (by decide +kernel)⟩
theorem lw_p1 : lw_okq (⟨"HotEditions", "firstBrokenOfBatch", "()I"⟩, 8) := ⟨⟨by decide +kernel, by decide +kernel⟩, List.mem_of_getElem? (i := 16) (by decide +kernel), List.mem_of_getElem? (i := 481) (by decide +kernel), List.mem_of_getElem? (i := 482) (by decide +kernel)⟩
theorem lw_p2 : lw_okq (⟨"HotEditions", "installBatch", "()V"⟩, 8) := ⟨⟨by decide +kernel, by decide +kernel⟩, List.mem_of_getElem? (i := 16) (by decide +kernel), List.mem_of_getElem? (i := 513) (by decide +kernel), List.mem_of_getElem? (i := 514) (by decide +kernel)⟩
theorem lw_p3 : lw_okq (⟨"HotEditions$Calls", "leave", "(I)V"⟩, 3) := ⟨⟨by decide +kernel, by decide +kernel⟩, List.mem_of_getElem? (i := 184) (by decide +kernel), List.mem_of_getElem? (i := 549) (by decide +kernel), List.mem_of_getElem? (i := 550) (by decide +kernel)⟩
theorem lw_p4 : lw_okq (⟨"HotEditions", "findFrame", "(II)LHotEditions$Frame;"⟩, 8) := ⟨⟨by decide +kernel, by decide +kernel⟩, List.mem_of_getElem? (i := 16) (by decide +kernel), List.mem_of_getElem? (i := 561) (by decide +kernel), List.mem_of_getElem? (i := 562) (by decide +kernel)⟩
theorem lw_p5 : lw_okq (⟨"HotEditions", "isFirstOfItsEdition", "(IILHotEditions$Frame;)Z"⟩, 8) := ⟨⟨by decide +kernel, by decide +kernel⟩, List.mem_of_getElem? (i := 16) (by decide +kernel), List.mem_of_getElem? (i := 577) (by decide +kernel), List.mem_of_getElem? (i := 578) (by decide +kernel)⟩
theorem lw_p6 : lw_okq (⟨"HotEditionsModel", "put", "(III)V"⟩, 19) := ⟨⟨by decide +kernel, by decide +kernel⟩, List.mem_of_getElem? (i := 581) (by decide +kernel), List.mem_of_getElem? (i := 591) (by decide +kernel), List.mem_of_getElem? (i := 592) (by decide +kernel)⟩
theorem lw_p7 : lw_okq (⟨"HotEditionsModel", "loaded", "(I)Z"⟩, 19) := ⟨⟨by decide +kernel, by decide +kernel⟩, List.mem_of_getElem? (i := 581) (by decide +kernel), List.mem_of_getElem? (i := 659) (by decide +kernel), List.mem_of_getElem? (i := 660) (by decide +kernel)⟩
theorem lw_p8 : lw_okq (⟨"HotEditionsModel", "transcribe", "(II)V"⟩, 19) := ⟨⟨by decide +kernel, by decide +kernel⟩, List.mem_of_getElem? (i := 581) (by decide +kernel), List.mem_of_getElem? (i := 663) (by decide +kernel), List.mem_of_getElem? (i := 664) (by decide +kernel)⟩
theorem lw_p9 : lw_okq (⟨"HotEditionsModel", "get", "(II)I"⟩, 19) := ⟨⟨by decide +kernel, by decide +kernel⟩, List.mem_of_getElem? (i := 581) (by decide +kernel), List.mem_of_getElem? (i := 667) (by decide +kernel), List.mem_of_getElem? (i := 668) (by decide +kernel)⟩
theorem lw_p10 : lw_okq (⟨"HotEditionsModel", "treat", "(III)V"⟩, 19) := ⟨⟨by decide +kernel, by decide +kernel⟩, List.mem_of_getElem? (i := 581) (by decide +kernel), List.mem_of_getElem? (i := 710) (by decide +kernel), List.mem_of_getElem? (i := 711) (by decide +kernel)⟩
theorem lw_p11 : lw_okq (⟨"HotEditionsModel", "changes", "(IIZ)V"⟩, 19) := ⟨⟨by decide +kernel, by decide +kernel⟩, List.mem_of_getElem? (i := 581) (by decide +kernel), List.mem_of_getElem? (i := 714) (by decide +kernel), List.mem_of_getElem? (i := 715) (by decide +kernel)⟩
theorem lw_p12 : lw_okq (⟨"HotEditionsModel", "change", "(II)V"⟩, 19) := ⟨⟨by decide +kernel, by decide +kernel⟩, List.mem_of_getElem? (i := 581) (by decide +kernel), List.mem_of_getElem? (i := 718) (by decide +kernel), List.mem_of_getElem? (i := 719) (by decide +kernel)⟩
theorem lw_p13 : lw_okq (⟨"HotEditionsModel", "find", "(II)I"⟩, 19) := ⟨⟨by decide +kernel, by decide +kernel⟩, List.mem_of_getElem? (i := 581) (by decide +kernel), List.mem_of_getElem? (i := 722) (by decide +kernel), List.mem_of_getElem? (i := 723) (by decide +kernel)⟩
theorem lw_p14 : lw_okq (⟨"HotEditionsModel", "plainRules", "(I)I"⟩, 19) := ⟨⟨by decide +kernel, by decide +kernel⟩, List.mem_of_getElem? (i := 581) (by decide +kernel), List.mem_of_getElem? (i := 726) (by decide +kernel), List.mem_of_getElem? (i := 727) (by decide +kernel)⟩
theorem lw_p15 : lw_okq (⟨"HotEditionsModel", "twice", "(IIII)Z"⟩, 19) := ⟨⟨by decide +kernel, by decide +kernel⟩, List.mem_of_getElem? (i := 581) (by decide +kernel), List.mem_of_getElem? (i := 730) (by decide +kernel), List.mem_of_getElem? (i := 731) (by decide +kernel)⟩
def lw_privs_1 : List (MethodName × Nat) := [(⟨"HotEditions", "isInBatch", "(I)Z"⟩, 8), (⟨"HotEditions", "firstBrokenOfBatch", "()I"⟩, 8), (⟨"HotEditions", "installBatch", "()V"⟩, 8), (⟨"HotEditions$Calls", "leave", "(I)V"⟩, 3), (⟨"HotEditions", "findFrame", "(II)LHotEditions$Frame;"⟩, 8), (⟨"HotEditions", "isFirstOfItsEdition", "(IILHotEditions$Frame;)Z"⟩, 8), (⟨"HotEditionsModel", "put", "(III)V"⟩, 19), (⟨"HotEditionsModel", "loaded", "(I)Z"⟩, 19), (⟨"HotEditionsModel", "transcribe", "(II)V"⟩, 19), (⟨"HotEditionsModel", "get", "(II)I"⟩, 19), (⟨"HotEditionsModel", "treat", "(III)V"⟩, 19), (⟨"HotEditionsModel", "changes", "(IIZ)V"⟩, 19), (⟨"HotEditionsModel", "change", "(II)V"⟩, 19), (⟨"HotEditionsModel", "find", "(II)I"⟩, 19), (⟨"HotEditionsModel", "plainRules", "(I)I"⟩, 19), (⟨"HotEditionsModel", "twice", "(IIII)Z"⟩, 19)]
theorem lw_r1 : ∀ q ∈ lw_privs_1, lw_okq q := List.forall_mem_cons.mpr ⟨lw_p0, List.forall_mem_cons.mpr ⟨lw_p1, List.forall_mem_cons.mpr ⟨lw_p2, List.forall_mem_cons.mpr ⟨lw_p3, List.forall_mem_cons.mpr ⟨lw_p4, List.forall_mem_cons.mpr ⟨lw_p5, List.forall_mem_cons.mpr ⟨lw_p6, List.forall_mem_cons.mpr ⟨lw_p7, List.forall_mem_cons.mpr ⟨lw_p8, List.forall_mem_cons.mpr ⟨lw_p9, List.forall_mem_cons.mpr ⟨lw_p10, List.forall_mem_cons.mpr ⟨lw_p11, List.forall_mem_cons.mpr ⟨lw_p12, List.forall_mem_cons.mpr ⟨lw_p13, List.forall_mem_cons.mpr ⟨lw_p14, List.forall_mem_cons.mpr ⟨lw_p15, fun _ h => absurd h List.not_mem_nil⟩⟩⟩⟩⟩⟩⟩⟩⟩⟩⟩⟩⟩⟩⟩⟩
theorem lw_p16 : lw_okq (⟨"HotEditionsModel", "strangeOp", "(I)Z"⟩, 19) := ⟨⟨by decide +kernel, by decide +kernel⟩, List.mem_of_getElem? (i := 581) (by decide +kernel), List.mem_of_getElem? (i := 734) (by decide +kernel), List.mem_of_getElem? (i := 735) (by decide +kernel)⟩
theorem lw_p17 : lw_okq (⟨"HotEditionsModel", "circle", "(I)Z"⟩, 19) := ⟨⟨by decide +kernel, by decide +kernel⟩, List.mem_of_getElem? (i := 581) (by decide +kernel), List.mem_of_getElem? (i := 738) (by decide +kernel), List.mem_of_getElem? (i := 739) (by decide +kernel)⟩
theorem lw_p18 : lw_okq (⟨"HotEditionsModel", "callsNothing", "(I)Z"⟩, 19) := ⟨⟨by decide +kernel, by decide +kernel⟩, List.mem_of_getElem? (i := 581) (by decide +kernel), List.mem_of_getElem? (i := 742) (by decide +kernel), List.mem_of_getElem? (i := 743) (by decide +kernel)⟩
theorem lw_p19 : lw_okq (⟨"HotEditionsModel", "renew", "(II)V"⟩, 19) := ⟨⟨by decide +kernel, by decide +kernel⟩, List.mem_of_getElem? (i := 581) (by decide +kernel), List.mem_of_getElem? (i := 746) (by decide +kernel), List.mem_of_getElem? (i := 747) (by decide +kernel)⟩
theorem lw_p20 : lw_okq (⟨"HotEditionsModel", "inUse", "(I)Z"⟩, 19) := ⟨⟨by decide +kernel, by decide +kernel⟩, List.mem_of_getElem? (i := 581) (by decide +kernel), List.mem_of_getElem? (i := 750) (by decide +kernel), List.mem_of_getElem? (i := 751) (by decide +kernel)⟩
theorem lw_p21 : lw_okq (⟨"HotEditionsModel", "inFrames", "(I)Z"⟩, 19) := ⟨⟨by decide +kernel, by decide +kernel⟩, List.mem_of_getElem? (i := 581) (by decide +kernel), List.mem_of_getElem? (i := 754) (by decide +kernel), List.mem_of_getElem? (i := 755) (by decide +kernel)⟩
theorem lw_p22 : lw_okq (⟨"HotEditionsModel", "rules", "(II)I"⟩, 19) := ⟨⟨by decide +kernel, by decide +kernel⟩, List.mem_of_getElem? (i := 581) (by decide +kernel), List.mem_of_getElem? (i := 766) (by decide +kernel), List.mem_of_getElem? (i := 767) (by decide +kernel)⟩
theorem lw_p23 : lw_okq (⟨"HotEditionsModel", "otherInterfaces", "(II)Z"⟩, 19) := ⟨⟨by decide +kernel, by decide +kernel⟩, List.mem_of_getElem? (i := 581) (by decide +kernel), List.mem_of_getElem? (i := 770) (by decide +kernel), List.mem_of_getElem? (i := 771) (by decide +kernel)⟩
theorem lw_p24 : lw_okq (⟨"HotEditionsModel", "otherFields", "(II)Z"⟩, 19) := ⟨⟨by decide +kernel, by decide +kernel⟩, List.mem_of_getElem? (i := 581) (by decide +kernel), List.mem_of_getElem? (i := 774) (by decide +kernel), List.mem_of_getElem? (i := 775) (by decide +kernel)⟩
theorem lw_p25 : lw_okq (⟨"HotEditionsModel", "moreMethods", "(II)Z"⟩, 19) := ⟨⟨by decide +kernel, by decide +kernel⟩, List.mem_of_getElem? (i := 581) (by decide +kernel), List.mem_of_getElem? (i := 778) (by decide +kernel), List.mem_of_getElem? (i := 779) (by decide +kernel)⟩
theorem lw_p26 : lw_okq (⟨"HotEditionsModel", "otherMethodFlags", "(II)Z"⟩, 19) := ⟨⟨by decide +kernel, by decide +kernel⟩, List.mem_of_getElem? (i := 581) (by decide +kernel), List.mem_of_getElem? (i := 782) (by decide +kernel), List.mem_of_getElem? (i := 783) (by decide +kernel)⟩
theorem lw_p27 : lw_okq (⟨"HotEditionsModel", "push", "(III)V"⟩, 19) := ⟨⟨by decide +kernel, by decide +kernel⟩, List.mem_of_getElem? (i := 581) (by decide +kernel), List.mem_of_getElem? (i := 797) (by decide +kernel), List.mem_of_getElem? (i := 798) (by decide +kernel)⟩
theorem lw_p28 : lw_okq (⟨"HotEditionsModel", "once", "(I)V"⟩, 19) := ⟨⟨by decide +kernel, by decide +kernel⟩, List.mem_of_getElem? (i := 581) (by decide +kernel), List.mem_of_getElem? (i := 805) (by decide +kernel), List.mem_of_getElem? (i := 806) (by decide +kernel)⟩
def lw_privs_2 : List (MethodName × Nat) := [(⟨"HotEditionsModel", "strangeOp", "(I)Z"⟩, 19), (⟨"HotEditionsModel", "circle", "(I)Z"⟩, 19), (⟨"HotEditionsModel", "callsNothing", "(I)Z"⟩, 19), (⟨"HotEditionsModel", "renew", "(II)V"⟩, 19), (⟨"HotEditionsModel", "inUse", "(I)Z"⟩, 19), (⟨"HotEditionsModel", "inFrames", "(I)Z"⟩, 19), (⟨"HotEditionsModel", "rules", "(II)I"⟩, 19), (⟨"HotEditionsModel", "otherInterfaces", "(II)Z"⟩, 19), (⟨"HotEditionsModel", "otherFields", "(II)Z"⟩, 19), (⟨"HotEditionsModel", "moreMethods", "(II)Z"⟩, 19), (⟨"HotEditionsModel", "otherMethodFlags", "(II)Z"⟩, 19), (⟨"HotEditionsModel", "push", "(III)V"⟩, 19), (⟨"HotEditionsModel", "once", "(I)V"⟩, 19)]
theorem lw_r2 : ∀ q ∈ lw_privs_2, lw_okq q := List.forall_mem_cons.mpr ⟨lw_p16, List.forall_mem_cons.mpr ⟨lw_p17, List.forall_mem_cons.mpr ⟨lw_p18, List.forall_mem_cons.mpr ⟨lw_p19, List.forall_mem_cons.mpr ⟨lw_p20, List.forall_mem_cons.mpr ⟨lw_p21, List.forall_mem_cons.mpr ⟨lw_p22, List.forall_mem_cons.mpr ⟨lw_p23, List.forall_mem_cons.mpr ⟨lw_p24, List.forall_mem_cons.mpr ⟨lw_p25, List.forall_mem_cons.mpr ⟨lw_p26, List.forall_mem_cons.mpr ⟨lw_p27, List.forall_mem_cons.mpr ⟨lw_p28, fun _ h => absurd h List.not_mem_nil⟩⟩⟩⟩⟩⟩⟩⟩⟩⟩⟩⟩⟩
def lw_privs : List (MethodName × Nat) := lw_privs_1 ++ (lw_privs_2)
def lw_tbl : List Cond := k2_sels lw_privs ++ tables_1
theorem lw_privs_ok : ∀ q ∈ lw_privs, lw_okq q := by
  show ∀ q ∈ lw_privs_1 ++ (lw_privs_2), lw_okq q
  exact List.forall_mem_append.mpr ⟨lw_r1, lw_r2⟩
end
section
/-! Names, printed by a program of mine out of the tables' words and javap's listing: classes, methods, words. -/
abbrev pmM : Type := MethodName × ByteArray × Nat × Option FieldType × Nat
def pmMv (w : Jvm.Cond) : Bool := match w with
  | .fieldLinkNest .. => true
  | .methodLinkNest .. => true
  | .arrayOver (.object _) => true
  | w => goodWord w
def pmWs : List Jvm.Cond := lw_tbl.filter pmMv
theorem pmWs_ok : ∀ w ∈ pmWs, pmMv w = true := fun w h => (List.mem_filter.mp h).2
theorem pmWs_in {w : Jvm.Cond} (h : w ∈ tables_1) (hm : pmMv w = true) : w ∈ pmWs := List.mem_filter.mpr ⟨List.mem_append_right _ h, hm⟩
theorem pmWs_1 {w : Jvm.Cond} (h : w ∈ tables_1_1) (hm : pmMv w = true) : w ∈ pmWs := pmWs_in (List.mem_append_left _ h) hm
theorem pmWs_2 {w : Jvm.Cond} (h : w ∈ tables_1_2) (hm : pmMv w = true) : w ∈ pmWs := pmWs_in (List.mem_append_right _ (List.mem_append_left _ h)) hm
theorem pmWs_3 {w : Jvm.Cond} (h : w ∈ tables_1_3) (hm : pmMv w = true) : w ∈ pmWs := pmWs_in (List.mem_append_right _ (List.mem_append_right _ (List.mem_append_left _ h))) hm
theorem pmWs_4 {w : Jvm.Cond} (h : w ∈ tables_1_4) (hm : pmMv w = true) : w ∈ pmWs := pmWs_in (List.mem_append_right _ (List.mem_append_right _ (List.mem_append_right _ h))) hm
theorem pmWs_s {q : MethodName × Nat} (h : q ∈ lw_privs) : Jvm.Cond.selects q.1.cls q.1 q.1 ∈ pmWs := List.mem_filter.mpr ⟨List.mem_append_left _ (List.mem_map.mpr ⟨q, h, rfl⟩), rfl⟩
def T_HE : u_T := fun k => match k with
  | 0 => ("HotEditions", "draft", "LHotEditions$Definition;", true)
  | 1 => ("HotEditions", "chosen", "I", false)
  | 2 => ("HotEditions", "shelf", "LHotEditions$Shelf;", true)
  | 3 => ("HotEditions", "chain", "LHotEditions$Chain;", true)
  | 4 => ("HotEditions", "batch", "[LHotEditions$Trial;", true)
  | 5 => ("HotEditions", "batchSize", "I", false)
  | 6 => ("HotEditions", "single", "LHotEditions$Trial;", true)
  | _ => ("HotEditions", "threads", "[LHotEditions$Calls;", true)
def t_HE : Nat → FieldType := fun k => match k with
  | 0 => (.object "HotEditions$Definition")
  | 1 => .int
  | 2 => (.object "HotEditions$Shelf")
  | 3 => (.object "HotEditions$Chain")
  | 4 => (.array (.object "HotEditions$Trial"))
  | 5 => .int
  | 6 => (.object "HotEditions$Trial")
  | _ => (.array (.object "HotEditions$Calls"))
theorem nm_HE : ∀ a, a < 8 → ∀ b, b < 8 → a ≠ b → (T_HE a).2.1 ≠ (T_HE b).2.1 := by decide +kernel
theorem ty_HE : ∀ k, k < 8 → parseFieldDescriptor (T_HE k).2.2.1 = some (t_HE k) := by decide +kernel
def T_Mo : u_T := fun k => match k with
  | 0 => ("HotEditionsModel", "cell", "[I", true)
  | 1 => ("HotEditionsModel", "chosen", "I", false)
  | 2 => ("HotEditionsModel", "current", "[I", true)
  | 3 => ("HotEditionsModel", "numbers", "[I", true)
  | 4 => ("HotEditionsModel", "numberOf", "[I", true)
  | 5 => ("HotEditionsModel", "classOf", "[I", true)
  | 6 => ("HotEditionsModel", "taken", "[Z", true)
  | 7 => ("HotEditionsModel", "kind", "[I", true)
  | 8 => ("HotEditionsModel", "value", "[I", true)
  | 9 => ("HotEditionsModel", "only", "[I", true)
  | 10 => ("HotEditionsModel", "repeats", "[Z", true)
  | 11 => ("HotEditionsModel", "batch", "I", false)
  | 12 => ("HotEditionsModel", "meant", "[I", true)
  | 13 => ("HotEditionsModel", "depth", "[I", true)
  | 14 => ("HotEditionsModel", "frameRow", "[I", true)
  | 15 => ("HotEditionsModel", "frameMethod", "[I", true)
  | 16 => ("HotEditionsModel", "place", "[I", true)
  | 17 => ("HotEditionsModel", "sum", "[I", true)
  | _ => ("HotEditionsModel", "results", "[I", true)
def t_Mo : Nat → FieldType := fun k => match k with
  | 0 => (.array .int)
  | 1 => .int
  | 2 => (.array .int)
  | 3 => (.array .int)
  | 4 => (.array .int)
  | 5 => (.array .int)
  | 6 => (.array .boolean)
  | 7 => (.array .int)
  | 8 => (.array .int)
  | 9 => (.array .int)
  | 10 => (.array .boolean)
  | 11 => .int
  | 12 => (.array .int)
  | 13 => (.array .int)
  | 14 => (.array .int)
  | 15 => (.array .int)
  | 16 => (.array .int)
  | 17 => (.array .int)
  | _ => (.array .int)
theorem nm_Mo : ∀ a, a < 19 → ∀ b, b < 19 → a ≠ b → (T_Mo a).2.1 ≠ (T_Mo b).2.1 := by decide +kernel
theorem ty_Mo : ∀ k, k < 19 → parseFieldDescriptor (T_Mo k).2.2.1 = some (t_Mo k) := by decide +kernel
def T_Cl : u_T := fun k => match k with
  | 0 => ("HotEditions$Calls", "frames", "[LHotEditions$Frame;", true)
  | 1 => ("HotEditions$Calls", "depth", "I", false)
  | _ => ("HotEditions$Calls", "result", "I", false)
def t_Cl : Nat → FieldType := fun k => match k with
  | 0 => (.array (.object "HotEditions$Frame"))
  | 1 => .int
  | _ => .int
theorem nm_Cl : ∀ a, a < 3 → ∀ b, b < 3 → a ≠ b → (T_Cl a).2.1 ≠ (T_Cl b).2.1 := by decide +kernel
theorem ty_Cl : ∀ k, k < 3 → parseFieldDescriptor (T_Cl k).2.2.1 = some (t_Cl k) := by decide +kernel
def T_Ch : u_T := fun k => match k with
  | _ => ("HotEditions$Chain", "links", "[LHotEditions$Transformer;", true)
def t_Ch : Nat → FieldType := fun k => match k with
  | _ => (.array (.object "HotEditions$Transformer"))
theorem nm_Ch : ∀ a, a < 1 → ∀ b, b < 1 → a ≠ b → (T_Ch a).2.1 ≠ (T_Ch b).2.1 := by decide +kernel
theorem ty_Ch : ∀ k, k < 1 → parseFieldDescriptor (T_Ch k).2.2.1 = some (t_Ch k) := by decide +kernel
def T_Cd : u_T := fun k => match k with
  | 0 => ("HotEditions$Code", "cells", "[I", true)
  | _ => ("HotEditions$Code", "length", "I", false)
def t_Cd : Nat → FieldType := fun k => match k with
  | 0 => (.array .int)
  | _ => .int
theorem nm_Cd : ∀ a, a < 2 → ∀ b, b < 2 → a ≠ b → (T_Cd a).2.1 ≠ (T_Cd b).2.1 := by decide +kernel
theorem ty_Cd : ∀ k, k < 2 → parseFieldDescriptor (T_Cd k).2.2.1 = some (t_Cd k) := by decide +kernel
def T_Df : u_T := fun k => match k with
  | 0 => ("HotEditions$Definition", "parts", "[I", true)
  | 1 => ("HotEditions$Definition", "interfaces", "[I", true)
  | 2 => ("HotEditions$Definition", "interfaceCount", "I", false)
  | 3 => ("HotEditions$Definition", "fieldCells", "[I", true)
  | 4 => ("HotEditions$Definition", "fieldCount", "I", false)
  | 5 => ("HotEditions$Definition", "methods", "[LHotEditions$Method;", true)
  | _ => ("HotEditions$Definition", "methodCount", "I", false)
def t_Df : Nat → FieldType := fun k => match k with
  | 0 => (.array .int)
  | 1 => (.array .int)
  | 2 => .int
  | 3 => (.array .int)
  | 4 => .int
  | 5 => (.array (.object "HotEditions$Method"))
  | _ => .int
theorem nm_Df : ∀ a, a < 7 → ∀ b, b < 7 → a ≠ b → (T_Df a).2.1 ≠ (T_Df b).2.1 := by decide +kernel
theorem ty_Df : ∀ k, k < 7 → parseFieldDescriptor (T_Df k).2.2.1 = some (t_Df k) := by decide +kernel
def T_Fr : u_T := fun k => match k with
  | 0 => ("HotEditions$Frame", "ofClass", "I", false)
  | 1 => ("HotEditions$Frame", "edition", "I", false)
  | 2 => ("HotEditions$Frame", "body", "LHotEditions$Code;", true)
  | 3 => ("HotEditions$Frame", "place", "I", false)
  | _ => ("HotEditions$Frame", "sum", "I", false)
def t_Fr : Nat → FieldType := fun k => match k with
  | 0 => .int
  | 1 => .int
  | 2 => (.object "HotEditions$Code")
  | 3 => .int
  | _ => .int
theorem nm_Fr : ∀ a, a < 5 → ∀ b, b < 5 → a ≠ b → (T_Fr a).2.1 ≠ (T_Fr b).2.1 := by decide +kernel
theorem ty_Fr : ∀ k, k < 5 → parseFieldDescriptor (T_Fr k).2.2.1 = some (t_Fr k) := by decide +kernel
def T_Lc : u_T := fun k => match k with
  | 0 => ("HotEditions$LoadedClass", "edition", "I", false)
  | 1 => ("HotEditions$LoadedClass", "current", "LHotEditions$Definition;", true)
  | _ => ("HotEditions$LoadedClass", "original", "LHotEditions$Definition;", true)
def t_Lc : Nat → FieldType := fun k => match k with
  | 0 => .int
  | 1 => (.object "HotEditions$Definition")
  | _ => (.object "HotEditions$Definition")
theorem nm_Lc : ∀ a, a < 3 → ∀ b, b < 3 → a ≠ b → (T_Lc a).2.1 ≠ (T_Lc b).2.1 := by decide +kernel
theorem ty_Lc : ∀ k, k < 3 → parseFieldDescriptor (T_Lc k).2.2.1 = some (t_Lc k) := by decide +kernel
def T_Mt : u_T := fun k => match k with
  | 0 => ("HotEditions$Method", "name", "I", false)
  | 1 => ("HotEditions$Method", "flags", "I", false)
  | _ => ("HotEditions$Method", "body", "LHotEditions$Code;", true)
def t_Mt : Nat → FieldType := fun k => match k with
  | 0 => .int
  | 1 => .int
  | _ => (.object "HotEditions$Code")
theorem nm_Mt : ∀ a, a < 3 → ∀ b, b < 3 → a ≠ b → (T_Mt a).2.1 ≠ (T_Mt b).2.1 := by decide +kernel
theorem ty_Mt : ∀ k, k < 3 → parseFieldDescriptor (T_Mt k).2.2.1 = some (t_Mt k) := by decide +kernel
def T_Sh : u_T := fun k => match k with
  | _ => ("HotEditions$Shelf", "places", "[LHotEditions$LoadedClass;", true)
def t_Sh : Nat → FieldType := fun k => match k with
  | _ => (.array (.object "HotEditions$LoadedClass"))
theorem nm_Sh : ∀ a, a < 1 → ∀ b, b < 1 → a ≠ b → (T_Sh a).2.1 ≠ (T_Sh b).2.1 := by decide +kernel
theorem ty_Sh : ∀ k, k < 1 → parseFieldDescriptor (T_Sh k).2.2.1 = some (t_Sh k) := by decide +kernel
def T_Tf : u_T := fun k => match k with
  | 0 => ("HotEditions$Transformer", "present", "Z", false)
  | 1 => ("HotEditions$Transformer", "kind", "I", false)
  | 2 => ("HotEditions$Transformer", "value", "I", false)
  | 3 => ("HotEditions$Transformer", "only", "I", false)
  | _ => ("HotEditions$Transformer", "repeats", "Z", false)
def t_Tf : Nat → FieldType := fun k => match k with
  | 0 => .boolean
  | 1 => .int
  | 2 => .int
  | 3 => .int
  | _ => .boolean
theorem nm_Tf : ∀ a, a < 5 → ∀ b, b < 5 → a ≠ b → (T_Tf a).2.1 ≠ (T_Tf b).2.1 := by decide +kernel
theorem ty_Tf : ∀ k, k < 5 → parseFieldDescriptor (T_Tf k).2.2.1 = some (t_Tf k) := by decide +kernel
def T_Tr : u_T := fun k => match k with
  | 0 => ("HotEditions$Trial", "target", "I", false)
  | 1 => ("HotEditions$Trial", "form", "LHotEditions$Definition;", true)
  | _ => ("HotEditions$Trial", "original", "LHotEditions$Definition;", true)
def t_Tr : Nat → FieldType := fun k => match k with
  | 0 => .int
  | 1 => (.object "HotEditions$Definition")
  | _ => (.object "HotEditions$Definition")
theorem nm_Tr : ∀ a, a < 3 → ∀ b, b < 3 → a ≠ b → (T_Tr a).2.1 ≠ (T_Tr b).2.1 := by decide +kernel
theorem ty_Tr : ∀ k, k < 3 → parseFieldDescriptor (T_Tr k).2.2.1 = some (t_Tr k) := by decide +kernel
abbrev pmCl : List vw_C := [("HotEditions", T_HE, 8), ("HotEditionsModel", T_Mo, 19), ("HotEditions$Calls", T_Cl, 3), ("HotEditions$Chain", T_Ch, 1), ("HotEditions$Code", T_Cd, 2), ("HotEditions$Definition", T_Df, 7), ("HotEditions$Frame", T_Fr, 5), ("HotEditions$LoadedClass", T_Lc, 3), ("HotEditions$Method", T_Mt, 3), ("HotEditions$Shelf", T_Sh, 1), ("HotEditions$Transformer", T_Tf, 5), ("HotEditions$Trial", T_Tr, 3)]
abbrev kHE : Nat := 0
abbrev kMo : Nat := 1
abbrev kCl : Nat := 2
abbrev kCh : Nat := 3
abbrev kCd : Nat := 4
abbrev kDf : Nat := 5
abbrev kFr : Nat := 6
abbrev kLc : Nat := 7
abbrev kMt : Nat := 8
abbrev kSh : Nat := 9
abbrev kTf : Nat := 10
abbrev kTr : Nat := 11
def pmTy : Nat → Option FieldType := fun k => match k with
  | 0 => some .int
  | 1 => some .boolean
  | 10 => some (.object "HotEditions$Method")
  | 9 => some (.object "HotEditions$LoadedClass")
  | 12 => some (.object "HotEditions$Transformer")
  | 13 => some (.object "HotEditions$Trial")
  | 4 => some (.object "HotEditions$Calls")
  | 8 => some (.object "HotEditions$Frame")
  | _ => none
def m_HE_init : pmM := (⟨"HotEditions", "<init>", "()V"⟩, prog_1_method_1_code, 2, none, 5)
def m_HE_blank : pmM := (⟨"HotEditions", "blank", "()V"⟩, prog_1_method_2_code, 1, none, 2)
def m_HE_copy : pmM := (⟨"HotEditions", "copy", "(I)Z"⟩, prog_1_method_3_code, 3, some FieldType.boolean, 4)
def m_HE_set : pmM := (⟨"HotEditions", "set", "(II)Z"⟩, prog_1_method_4_code, 3, some FieldType.boolean, 1)
def m_HE_implement : pmM := (⟨"HotEditions", "implement", "(I)Z"⟩, prog_1_method_5_code, 2, some FieldType.boolean, 2)
def m_HE_field : pmM := (⟨"HotEditions", "field", "(III)Z"⟩, prog_1_method_6_code, 4, some FieldType.boolean, 2)
def m_HE_method : pmM := (⟨"HotEditions", "method", "(II)Z"⟩, prog_1_method_7_code, 3, some FieldType.boolean, 3)
def m_HE_choose : pmM := (⟨"HotEditions", "choose", "(I)Z"⟩, prog_1_method_8_code, 2, some FieldType.boolean, 2)
def m_HE_code : pmM := (⟨"HotEditions", "code", "(III)Z"⟩, prog_1_method_9_code, 4, some FieldType.boolean, 2)
def m_HE_load : pmM := (⟨"HotEditions", "load", "()I"⟩, prog_1_method_10_code, 3, some FieldType.int, 6)
def m_HE_transformer : pmM := (⟨"HotEditions", "transformer", "(IIIZ)I"⟩, prog_1_method_11_code, 5, some FieldType.int, 2)
def m_HE_remove : pmM := (⟨"HotEditions", "remove", "(I)Z"⟩, prog_1_method_12_code, 2, some FieldType.boolean, 2)
def m_HE_queue : pmM := (⟨"HotEditions", "queue", "(I)Z"⟩, prog_1_method_13_code, 2, some FieldType.boolean, 5)
def m_HE_swap : pmM := (⟨"HotEditions", "swap", "()I"⟩, prog_1_method_14_code, 2, some FieldType.int, 7)
def m_HE_repeat : pmM := (⟨"HotEditions", "repeat", "(I)I"⟩, prog_1_method_15_code, 4, some FieldType.int, 6)
def m_HE_start : pmM := (⟨"HotEditions", "start", "(III)Z"⟩, prog_1_method_16_code, 4, some FieldType.boolean, 4)
def m_HE_step : pmM := (⟨"HotEditions", "step", "(II)I"⟩, prog_1_method_17_code, 4, some FieldType.int, 5)
def m_HE_frame : pmM := (⟨"HotEditions", "frame", "(II)I"⟩, prog_1_method_18_code, 4, some FieldType.int, 3)
def m_HE_result : pmM := (⟨"HotEditions", "result", "(I)I"⟩, prog_1_method_19_code, 2, some FieldType.int, 2)
def m_HE_edition : pmM := (⟨"HotEditions", "edition", "(I)I"⟩, prog_1_method_20_code, 3, some FieldType.int, 2)
def m_HE_kept : pmM := (⟨"HotEditions", "kept", "(I)I"⟩, prog_1_method_21_code, 7, some FieldType.int, 4)
def m_HE_isClass : pmM := (⟨"HotEditions", "isClass", "(I)Z"⟩, prog_1_method_22_code, 1, some FieldType.boolean, 1)
def m_HE_isThread : pmM := (⟨"HotEditions", "isThread", "(I)Z"⟩, prog_1_method_23_code, 1, some FieldType.boolean, 1)
def m_HE_isInBatch : pmM := (⟨"HotEditions", "isInBatch", "(I)Z"⟩, prog_1_method_24_code, 3, some FieldType.boolean, 1)
def m_HE_firstBrokenOfBatch : pmM := (⟨"HotEditions", "firstBrokenOfBatch", "()I"⟩, prog_1_method_25_code, 5, some FieldType.int, 6)
def m_HE_installBatch : pmM := (⟨"HotEditions", "installBatch", "()V"⟩, prog_1_method_26_code, 3, none, 5)
def m_HE_findFrame : pmM := (⟨"HotEditions", "findFrame", "(II)LHotEditions$Frame;"⟩, prog_1_method_27_code, 3, some (FieldType.object "HotEditions$Frame"), 2)
def m_HE_isFirstOfItsEdition : pmM := (⟨"HotEditions", "isFirstOfItsEdition", "(IILHotEditions$Frame;)Z"⟩, prog_1_method_28_code, 6, some FieldType.boolean, 3)
def m_Mo_init : pmM := (⟨"HotEditionsModel", "<init>", "()V"⟩, prog_14_method_1_code, 1, none, 3)
def m_Mo_get : pmM := (⟨"HotEditionsModel", "get", "(II)I"⟩, prog_14_method_2_code, 3, some FieldType.int, 1)
def m_Mo_put : pmM := (⟨"HotEditionsModel", "put", "(III)V"⟩, prog_14_method_3_code, 4, none, 1)
def m_Mo_transcribe : pmM := (⟨"HotEditionsModel", "transcribe", "(II)V"⟩, prog_14_method_4_code, 4, none, 2)
def m_Mo_loaded : pmM := (⟨"HotEditionsModel", "loaded", "(I)Z"⟩, prog_14_method_5_code, 2, some FieldType.boolean, 1)
def m_Mo_blank : pmM := (⟨"HotEditionsModel", "blank", "()V"⟩, prog_14_method_6_code, 2, none, 2)
def m_Mo_copy : pmM := (⟨"HotEditionsModel", "copy", "(I)Z"⟩, prog_14_method_7_code, 2, some FieldType.boolean, 3)
def m_Mo_set : pmM := (⟨"HotEditionsModel", "set", "(II)Z"⟩, prog_14_method_8_code, 3, some FieldType.boolean, 2)
def m_Mo_implement : pmM := (⟨"HotEditionsModel", "implement", "(I)Z"⟩, prog_14_method_9_code, 3, some FieldType.boolean, 2)
def m_Mo_field : pmM := (⟨"HotEditionsModel", "field", "(III)Z"⟩, prog_14_method_10_code, 5, some FieldType.boolean, 2)
def m_Mo_methodAt : pmM := (⟨"HotEditionsModel", "methodAt", "(I)I"⟩, prog_14_method_11_code, 1, some FieldType.int, 1)
def m_Mo_method : pmM := (⟨"HotEditionsModel", "method", "(II)Z"⟩, prog_14_method_12_code, 4, some FieldType.boolean, 2)
def m_Mo_choose : pmM := (⟨"HotEditionsModel", "choose", "(I)Z"⟩, prog_14_method_13_code, 2, some FieldType.boolean, 2)
def m_Mo_code : pmM := (⟨"HotEditionsModel", "code", "(III)Z"⟩, prog_14_method_14_code, 6, some FieldType.boolean, 2)
def m_Mo_transformer : pmM := (⟨"HotEditionsModel", "transformer", "(IIIZ)I"⟩, prog_14_method_15_code, 6, some FieldType.int, 1)
def m_Mo_remove : pmM := (⟨"HotEditionsModel", "remove", "(I)Z"⟩, prog_14_method_16_code, 2, some FieldType.boolean, 1)
def m_Mo_find : pmM := (⟨"HotEditionsModel", "find", "(II)I"⟩, prog_14_method_17_code, 4, some FieldType.int, 2)
def m_Mo_change : pmM := (⟨"HotEditionsModel", "change", "(II)V"⟩, prog_14_method_18_code, 8, none, 3)
def m_Mo_changes : pmM := (⟨"HotEditionsModel", "changes", "(IIZ)V"⟩, prog_14_method_19_code, 5, none, 4)
def m_Mo_treat : pmM := (⟨"HotEditionsModel", "treat", "(III)V"⟩, prog_14_method_20_code, 4, none, 5)
def m_Mo_twice : pmM := (⟨"HotEditionsModel", "twice", "(IIII)Z"⟩, prog_14_method_21_code, 8, some FieldType.boolean, 2)
def m_Mo_strangeOp : pmM := (⟨"HotEditionsModel", "strangeOp", "(I)Z"⟩, prog_14_method_22_code, 7, some FieldType.boolean, 2)
def m_Mo_circle : pmM := (⟨"HotEditionsModel", "circle", "(I)Z"⟩, prog_14_method_23_code, 6, some FieldType.boolean, 2)
def m_Mo_callsNothing : pmM := (⟨"HotEditionsModel", "callsNothing", "(I)Z"⟩, prog_14_method_24_code, 9, some FieldType.boolean, 3)
def m_Mo_plainRules : pmM := (⟨"HotEditionsModel", "plainRules", "(I)I"⟩, prog_14_method_25_code, 4, some FieldType.int, 4)
def m_Mo_otherInterfaces : pmM := (⟨"HotEditionsModel", "otherInterfaces", "(II)Z"⟩, prog_14_method_26_code, 7, some FieldType.boolean, 2)
def m_Mo_otherFields : pmM := (⟨"HotEditionsModel", "otherFields", "(II)Z"⟩, prog_14_method_27_code, 5, some FieldType.boolean, 2)
def m_Mo_moreMethods : pmM := (⟨"HotEditionsModel", "moreMethods", "(II)Z"⟩, prog_14_method_28_code, 5, some FieldType.boolean, 3)
def m_Mo_otherMethodFlags : pmM := (⟨"HotEditionsModel", "otherMethodFlags", "(II)Z"⟩, prog_14_method_29_code, 7, some FieldType.boolean, 3)
def m_Mo_rules : pmM := (⟨"HotEditionsModel", "rules", "(II)I"⟩, prog_14_method_30_code, 5, some FieldType.int, 5)
def m_Mo_inFrames : pmM := (⟨"HotEditionsModel", "inFrames", "(I)Z"⟩, prog_14_method_31_code, 5, some FieldType.boolean, 1)
def m_Mo_inUse : pmM := (⟨"HotEditionsModel", "inUse", "(I)Z"⟩, prog_14_method_32_code, 4, some FieldType.boolean, 2)
def m_Mo_renew : pmM := (⟨"HotEditionsModel", "renew", "(II)V"⟩, prog_14_method_33_code, 4, none, 3)
def m_Mo_load : pmM := (⟨"HotEditionsModel", "load", "()I"⟩, prog_14_method_34_code, 3, some FieldType.int, 6)
def m_Mo_queue : pmM := (⟨"HotEditionsModel", "queue", "(I)Z"⟩, prog_14_method_35_code, 3, some FieldType.boolean, 3)
def m_Mo_swap : pmM := (⟨"HotEditionsModel", "swap", "()I"⟩, prog_14_method_36_code, 4, some FieldType.int, 6)
def m_Mo_repeat : pmM := (⟨"HotEditionsModel", "repeat", "(I)I"⟩, prog_14_method_37_code, 3, some FieldType.int, 6)
def m_Mo_push : pmM := (⟨"HotEditionsModel", "push", "(III)V"⟩, prog_14_method_38_code, 5, none, 3)
def m_Mo_isThread : pmM := (⟨"HotEditionsModel", "isThread", "(I)Z"⟩, prog_14_method_39_code, 1, some FieldType.boolean, 1)
def m_Mo_start : pmM := (⟨"HotEditionsModel", "start", "(III)Z"⟩, prog_14_method_40_code, 4, some FieldType.boolean, 4)
def m_Mo_once : pmM := (⟨"HotEditionsModel", "once", "(I)V"⟩, prog_14_method_41_code, 8, none, 4)
def m_Mo_step : pmM := (⟨"HotEditionsModel", "step", "(II)I"⟩, prog_14_method_42_code, 4, some FieldType.int, 5)
def m_Mo_frame : pmM := (⟨"HotEditionsModel", "frame", "(II)I"⟩, prog_14_method_43_code, 4, some FieldType.int, 2)
def m_Mo_result : pmM := (⟨"HotEditionsModel", "result", "(I)I"⟩, prog_14_method_44_code, 2, some FieldType.int, 2)
def m_Mo_edition : pmM := (⟨"HotEditionsModel", "edition", "(I)I"⟩, prog_14_method_45_code, 2, some FieldType.int, 2)
def m_Mo_kept : pmM := (⟨"HotEditionsModel", "kept", "(I)I"⟩, prog_14_method_46_code, 4, some FieldType.int, 3)
def m_Cl_init : pmM := (⟨"HotEditions$Calls", "<init>", "()V"⟩, prog_2_method_1_code, 2, none, 3)
def m_Cl_enter : pmM := (⟨"HotEditions$Calls", "enter", "(IILHotEditions$Shelf;)Z"⟩, prog_2_method_2_code, 6, some FieldType.boolean, 3)
def m_Cl_advance : pmM := (⟨"HotEditions$Calls", "advance", "(LHotEditions$Shelf;)V"⟩, prog_2_method_3_code, 4, none, 4)
def m_Cl_leave : pmM := (⟨"HotEditions$Calls", "leave", "(I)V"⟩, prog_2_method_4_code, 2, none, 1)
def m_Ch_init : pmM := (⟨"HotEditions$Chain", "<init>", "()V"⟩, prog_3_method_1_code, 2, none, 2)
def m_Ch_put : pmM := (⟨"HotEditions$Chain", "put", "(IIIZ)I"⟩, prog_3_method_2_code, 7, some FieldType.int, 1)
def m_Ch_free : pmM := (⟨"HotEditions$Chain", "free", "(I)Z"⟩, prog_3_method_3_code, 2, some FieldType.boolean, 1)
def m_Ch_treat : pmM := (⟨"HotEditions$Chain", "treat", "(LHotEditions$Trial;)V"⟩, prog_3_method_4_code, 2, none, 5)
def m_Ch_change : pmM := (⟨"HotEditions$Chain", "change", "(LHotEditions$Definition;IZ)V"⟩, prog_3_method_5_code, 6, none, 4)
def m_Cd_init : pmM := (⟨"HotEditions$Code", "<init>", "()V"⟩, prog_4_method_1_code, 1, none, 1)
def m_Cd_clear : pmM := (⟨"HotEditions$Code", "clear", "()V"⟩, prog_4_method_2_code, 1, none, 1)
def m_Cd_become : pmM := (⟨"HotEditions$Code", "become", "(LHotEditions$Code;)V"⟩, prog_4_method_3_code, 2, none, 1)
def m_Cd_add : pmM := (⟨"HotEditions$Code", "add", "(III)Z"⟩, prog_4_method_4_code, 4, some FieldType.boolean, 1)
def m_Cd_opAt : pmM := (⟨"HotEditions$Code", "opAt", "(I)I"⟩, prog_4_method_5_code, 2, some FieldType.int, 1)
def m_Cd_firstOperandAt : pmM := (⟨"HotEditions$Code", "firstOperandAt", "(I)I"⟩, prog_4_method_6_code, 2, some FieldType.int, 1)
def m_Cd_secondOperandAt : pmM := (⟨"HotEditions$Code", "secondOperandAt", "(I)I"⟩, prog_4_method_7_code, 2, some FieldType.int, 1)
def m_Cd_raiseAdditions : pmM := (⟨"HotEditions$Code", "raiseAdditions", "(I)V"⟩, prog_4_method_8_code, 3, none, 2)
def m_Df_init : pmM := (⟨"HotEditions$Definition", "<init>", "()V"⟩, prog_5_method_1_code, 2, none, 3)
def m_Df_clear : pmM := (⟨"HotEditions$Definition", "clear", "()V"⟩, prog_5_method_2_code, 1, none, 1)
def m_Df_become : pmM := (⟨"HotEditions$Definition", "become", "(LHotEditions$Definition;)V"⟩, prog_5_method_3_code, 3, none, 3)
def m_Df_addInterface : pmM := (⟨"HotEditions$Definition", "addInterface", "(I)Z"⟩, prog_5_method_4_code, 2, some FieldType.boolean, 1)
def m_Df_addField : pmM := (⟨"HotEditions$Definition", "addField", "(III)Z"⟩, prog_5_method_5_code, 4, some FieldType.boolean, 1)
def m_Df_addMethod : pmM := (⟨"HotEditions$Definition", "addMethod", "(II)Z"⟩, prog_5_method_6_code, 4, some FieldType.boolean, 2)
def m_Df_findMethod : pmM := (⟨"HotEditions$Definition", "findMethod", "(I)LHotEditions$Method;"⟩, prog_5_method_7_code, 3, some (FieldType.object "HotEditions$Method"), 1)
def m_Df_hasInterface : pmM := (⟨"HotEditions$Definition", "hasInterface", "(I)Z"⟩, prog_5_method_8_code, 3, some FieldType.boolean, 1)
def m_Df_hasEqualInterfaces : pmM := (⟨"HotEditions$Definition", "hasEqualInterfaces", "()Z"⟩, prog_5_method_9_code, 3, some FieldType.boolean, 1)
def m_Df_hasFieldsOfOneName : pmM := (⟨"HotEditions$Definition", "hasFieldsOfOneName", "()Z"⟩, prog_5_method_10_code, 3, some FieldType.boolean, 1)
def m_Df_hasMethodsOfOneName : pmM := (⟨"HotEditions$Definition", "hasMethodsOfOneName", "()Z"⟩, prog_5_method_11_code, 3, some FieldType.boolean, 1)
def m_Df_hasFieldsOf : pmM := (⟨"HotEditions$Definition", "hasFieldsOf", "(LHotEditions$Definition;)Z"⟩, prog_5_method_12_code, 3, some FieldType.boolean, 1)
def m_Df_hasInterfacesOf : pmM := (⟨"HotEditions$Definition", "hasInterfacesOf", "(LHotEditions$Definition;)Z"⟩, prog_5_method_13_code, 3, some FieldType.boolean, 2)
def m_Df_hasMethodNamesOf : pmM := (⟨"HotEditions$Definition", "hasMethodNamesOf", "(LHotEditions$Definition;)Z"⟩, prog_5_method_14_code, 3, some FieldType.boolean, 2)
def m_Df_hasMethodFlagsOf : pmM := (⟨"HotEditions$Definition", "hasMethodFlagsOf", "(LHotEditions$Definition;)Z"⟩, prog_5_method_15_code, 4, some FieldType.boolean, 2)
def m_Fr_init : pmM := (⟨"HotEditions$Frame", "<init>", "()V"⟩, prog_6_method_1_code, 1, none, 2)
def m_Fr_begin : pmM := (⟨"HotEditions$Frame", "begin", "(IILHotEditions$Code;)V"⟩, prog_6_method_2_code, 4, none, 2)
def m_Lc_init : pmM := (⟨"HotEditions$LoadedClass", "<init>", "()V"⟩, prog_7_method_1_code, 1, none, 4)
def m_Lc_addEdition : pmM := (⟨"HotEditions$LoadedClass", "addEdition", "(LHotEditions$Definition;)V"⟩, prog_7_method_2_code, 2, none, 4)
def m_Mt_init : pmM := (⟨"HotEditions$Method", "<init>", "()V"⟩, prog_8_method_1_code, 1, none, 2)
def m_Mt_become : pmM := (⟨"HotEditions$Method", "become", "(LHotEditions$Method;)V"⟩, prog_8_method_2_code, 2, none, 2)
def m_Ru_firstBroken : pmM := (⟨"HotEditions$Rules", "firstBroken", "(LHotEditions$Definition;ILHotEditions$Definition;LHotEditions$Shelf;)I"⟩, prog_9_method_2_code, 5, some FieldType.int, 5)
def m_Ru_firstBrokenAlone : pmM := (⟨"HotEditions$Rules", "firstBrokenAlone", "(LHotEditions$Definition;LHotEditions$Shelf;)I"⟩, prog_9_method_3_code, 2, some FieldType.int, 4)
def m_Ru_firstBrokenBeside : pmM := (⟨"HotEditions$Rules", "firstBrokenBeside", "(LHotEditions$Definition;ILHotEditions$Definition;)I"⟩, prog_9_method_4_code, 3, some FieldType.int, 3)
def m_Ru_hasUnknownOp : pmM := (⟨"HotEditions$Rules", "hasUnknownOp", "(LHotEditions$Definition;)Z"⟩, prog_9_method_5_code, 4, some FieldType.boolean, 2)
def m_Ru_meetsItselfAbove : pmM := (⟨"HotEditions$Rules", "meetsItselfAbove", "(LHotEditions$Definition;LHotEditions$Shelf;)Z"⟩, prog_9_method_6_code, 5, some FieldType.boolean, 2)
def m_Ru_lacksSuper : pmM := (⟨"HotEditions$Rules", "lacksSuper", "(LHotEditions$Definition;LHotEditions$Shelf;)Z"⟩, prog_9_method_7_code, 2, some FieldType.boolean, 2)
def m_Ru_lacksCalledMethod : pmM := (⟨"HotEditions$Rules", "lacksCalledMethod", "(LHotEditions$Definition;LHotEditions$Shelf;)Z"⟩, prog_9_method_8_code, 5, some FieldType.boolean, 3)
def m_Ru_isCallable : pmM := (⟨"HotEditions$Rules", "isCallable", "(LHotEditions$Definition;IILHotEditions$Shelf;)Z"⟩, prog_9_method_9_code, 5, some FieldType.boolean, 2)
def m_Sh_init : pmM := (⟨"HotEditions$Shelf", "<init>", "()V"⟩, prog_10_method_1_code, 1, none, 1)
def m_Sh_find : pmM := (⟨"HotEditions$Shelf", "find", "(I)LHotEditions$LoadedClass;"⟩, prog_10_method_2_code, 2, some (FieldType.object "HotEditions$LoadedClass"), 1)
def m_Sh_add : pmM := (⟨"HotEditions$Shelf", "add", "(ILHotEditions$Trial;)V"⟩, prog_10_method_3_code, 4, none, 5)
def m_Tf_init : pmM := (⟨"HotEditions$Transformer", "<init>", "()V"⟩, prog_11_method_1_code, 1, none, 1)
def m_Tf_isFor : pmM := (⟨"HotEditions$Transformer", "isFor", "(I)Z"⟩, prog_11_method_2_code, 2, some FieldType.boolean, 1)
def m_Tf_change : pmM := (⟨"HotEditions$Transformer", "change", "(LHotEditions$Definition;)V"⟩, prog_11_method_3_code, 3, none, 3)
def m_Tf_emptyAllCode : pmM := (⟨"HotEditions$Transformer", "emptyAllCode", "(LHotEditions$Definition;)V"⟩, prog_11_method_4_code, 2, none, 2)
def m_Tr_init : pmM := (⟨"HotEditions$Trial", "<init>", "()V"⟩, prog_12_method_1_code, 1, none, 4)
def m_Tr_take : pmM := (⟨"HotEditions$Trial", "take", "(LHotEditions$Definition;I)V"⟩, prog_12_method_2_code, 3, none, 4)
def m_Lw_law : pmM := (⟨"HotEditionsLaw", "law", "([I)Z"⟩, code, 4, some FieldType.boolean, 8)
end
section
/-! The tables' words that are used, each with its place. -/
theorem w_0 : (Jvm.Cond.initialized "HotEditionsLaw") ∈ pmWs := pmWs_1 (List.mem_of_getElem? (i := 0) rfl) rfl
theorem w_1 : (Jvm.Cond.initialized "HotEditions") ∈ pmWs := pmWs_1 (List.mem_of_getElem? (i := 1) rfl) rfl
theorem w_2 : (Jvm.Cond.initialized "HotEditions$Definition") ∈ pmWs := pmWs_1 (List.mem_of_getElem? (i := 2) rfl) rfl
theorem w_3 : (Jvm.Cond.initialized "HotEditions$Method") ∈ pmWs := pmWs_1 (List.mem_of_getElem? (i := 3) rfl) rfl
theorem w_4 : (Jvm.Cond.initialized "HotEditions$Code") ∈ pmWs := pmWs_1 (List.mem_of_getElem? (i := 4) rfl) rfl
theorem w_5 : (Jvm.Cond.initialized "HotEditions$Shelf") ∈ pmWs := pmWs_1 (List.mem_of_getElem? (i := 5) rfl) rfl
theorem w_6 : (Jvm.Cond.initialized "HotEditions$Chain") ∈ pmWs := pmWs_1 (List.mem_of_getElem? (i := 6) rfl) rfl
theorem w_7 : (Jvm.Cond.initialized "HotEditions$Transformer") ∈ pmWs := pmWs_1 (List.mem_of_getElem? (i := 7) rfl) rfl
theorem w_8 : (Jvm.Cond.initialized "HotEditions$Trial") ∈ pmWs := pmWs_1 (List.mem_of_getElem? (i := 8) rfl) rfl
theorem w_9 : (Jvm.Cond.initialized "HotEditions$Calls") ∈ pmWs := pmWs_1 (List.mem_of_getElem? (i := 9) rfl) rfl
theorem w_10 : (Jvm.Cond.initialized "HotEditions$Frame") ∈ pmWs := pmWs_1 (List.mem_of_getElem? (i := 10) rfl) rfl
theorem w_11 : (Jvm.Cond.initialized "HotEditionsModel") ∈ pmWs := pmWs_1 (List.mem_of_getElem? (i := 11) rfl) rfl
theorem w_12 : (Jvm.Cond.initialized "java/lang/System") ∈ pmWs := pmWs_1 (List.mem_of_getElem? (i := 12) rfl) rfl
theorem w_13 : (Jvm.Cond.initialized "HotEditions$Rules") ∈ pmWs := pmWs_1 (List.mem_of_getElem? (i := 13) rfl) rfl
theorem w_14 : (Jvm.Cond.initialized "HotEditions$LoadedClass") ∈ pmWs := pmWs_1 (List.mem_of_getElem? (i := 14) rfl) rfl
theorem w_15 : (Jvm.Cond.classLink "HotEditionsLaw" (7 : Nat) "HotEditions") ∈ pmWs := pmWs_1 (List.mem_of_getElem? (i := 15) rfl) rfl
theorem w_16 : (Jvm.Cond.instantiable "HotEditions" (8 : Nat)) ∈ pmWs := pmWs_1 (List.mem_of_getElem? (i := 16) rfl) rfl
theorem w_17 : (Jvm.Cond.methodLink "HotEditionsLaw" (9 : Nat) ({ cls := "HotEditions", name := "<init>", desc := "()V" } : MethodName)) ∈ pmWs := pmWs_1 (List.mem_of_getElem? (i := 17) rfl) rfl
theorem w_18 : (Jvm.Cond.instanceMethod ({ cls := "HotEditions", name := "<init>", desc := "()V" } : MethodName)) ∈ pmWs := pmWs_1 (List.mem_of_getElem? (i := 18) rfl) rfl
theorem w_19 : (Jvm.Cond.code ({ cls := "HotEditions", name := "<init>", desc := "()V" } : MethodName) prog_1_method_1_code (2 : Nat) (Option.none : Option FieldType)) ∈ pmWs := pmWs_1 (List.mem_of_getElem? (i := 19) rfl) rfl
theorem w_20 : (Jvm.Cond.methodLink "HotEditions" (1 : Nat) ({ cls := "java/lang/Object", name := "<init>", desc := "()V" } : MethodName)) ∈ pmWs := pmWs_1 (List.mem_of_getElem? (i := 20) rfl) rfl
theorem w_21 : (Jvm.Cond.instanceMethod ({ cls := "java/lang/Object", name := "<init>", desc := "()V" } : MethodName)) ∈ pmWs := pmWs_1 (List.mem_of_getElem? (i := 21) rfl) rfl
theorem w_22 : (Jvm.Cond.code ({ cls := "java/lang/Object", name := "<init>", desc := "()V" } : MethodName) object_method_1_code (1 : Nat) (Option.none : Option FieldType)) ∈ pmWs := pmWs_1 (List.mem_of_getElem? (i := 22) rfl) rfl
theorem w_23 : (Jvm.Cond.classLink "HotEditions" (7 : Nat) "HotEditions$Definition") ∈ pmWs := pmWs_1 (List.mem_of_getElem? (i := 23) rfl) rfl
theorem w_24 : (Jvm.Cond.instantiable "HotEditions$Definition" (7 : Nat)) ∈ pmWs := pmWs_1 (List.mem_of_getElem? (i := 24) rfl) rfl
theorem w_25 : (Jvm.Cond.methodLink "HotEditions" (9 : Nat) ({ cls := "HotEditions$Definition", name := "<init>", desc := "()V" } : MethodName)) ∈ pmWs := pmWs_1 (List.mem_of_getElem? (i := 25) rfl) rfl
theorem w_26 : (Jvm.Cond.instanceMethod ({ cls := "HotEditions$Definition", name := "<init>", desc := "()V" } : MethodName)) ∈ pmWs := pmWs_1 (List.mem_of_getElem? (i := 26) rfl) rfl
theorem w_27 : (Jvm.Cond.code ({ cls := "HotEditions$Definition", name := "<init>", desc := "()V" } : MethodName) prog_5_method_1_code (2 : Nat) (Option.none : Option FieldType)) ∈ pmWs := pmWs_1 (List.mem_of_getElem? (i := 27) rfl) rfl
theorem w_28 : (Jvm.Cond.methodLink "HotEditions$Definition" (3 : Nat) ({ cls := "java/lang/Object", name := "<init>", desc := "()V" } : MethodName)) ∈ pmWs := pmWs_1 (List.mem_of_getElem? (i := 28) rfl) rfl
theorem w_29 : (Jvm.Cond.classLink "HotEditions$Definition" (28 : Nat) "HotEditions$Method") ∈ pmWs := pmWs_1 (List.mem_of_getElem? (i := 29) rfl) rfl
theorem w_30 : (Jvm.Cond.arrayOver (FieldType.object "HotEditions$Method")) ∈ pmWs := pmWs_1 (List.mem_of_getElem? (i := 30) rfl) rfl
theorem w_31 : (Jvm.Cond.instantiable "HotEditions$Method" (3 : Nat)) ∈ pmWs := pmWs_1 (List.mem_of_getElem? (i := 31) rfl) rfl
theorem w_32 : (Jvm.Cond.methodLinkNest "HotEditions$Definition" (37 : Nat) ({ cls := "HotEditions$Method", name := "<init>", desc := "()V" } : MethodName) "HotEditions") ∈ pmWs := pmWs_1 (List.mem_of_getElem? (i := 32) rfl) rfl
theorem w_33 : (Jvm.Cond.instanceMethod ({ cls := "HotEditions$Method", name := "<init>", desc := "()V" } : MethodName)) ∈ pmWs := pmWs_1 (List.mem_of_getElem? (i := 33) rfl) rfl
theorem w_34 : (Jvm.Cond.code ({ cls := "HotEditions$Method", name := "<init>", desc := "()V" } : MethodName) prog_8_method_1_code (1 : Nat) (Option.none : Option FieldType)) ∈ pmWs := pmWs_1 (List.mem_of_getElem? (i := 34) rfl) rfl
theorem w_35 : (Jvm.Cond.methodLink "HotEditions$Method" (1 : Nat) ({ cls := "java/lang/Object", name := "<init>", desc := "()V" } : MethodName)) ∈ pmWs := pmWs_1 (List.mem_of_getElem? (i := 35) rfl) rfl
theorem w_36 : (Jvm.Cond.classLink "HotEditions$Method" (16 : Nat) "HotEditions$Code") ∈ pmWs := pmWs_1 (List.mem_of_getElem? (i := 36) rfl) rfl
theorem w_37 : (Jvm.Cond.instantiable "HotEditions$Code" (2 : Nat)) ∈ pmWs := pmWs_1 (List.mem_of_getElem? (i := 37) rfl) rfl
theorem w_38 : (Jvm.Cond.methodLinkNest "HotEditions$Method" (18 : Nat) ({ cls := "HotEditions$Code", name := "<init>", desc := "()V" } : MethodName) "HotEditions") ∈ pmWs := pmWs_1 (List.mem_of_getElem? (i := 38) rfl) rfl
theorem w_39 : (Jvm.Cond.instanceMethod ({ cls := "HotEditions$Code", name := "<init>", desc := "()V" } : MethodName)) ∈ pmWs := pmWs_1 (List.mem_of_getElem? (i := 39) rfl) rfl
theorem w_40 : (Jvm.Cond.code ({ cls := "HotEditions$Code", name := "<init>", desc := "()V" } : MethodName) prog_4_method_1_code (1 : Nat) (Option.none : Option FieldType)) ∈ pmWs := pmWs_1 (List.mem_of_getElem? (i := 40) rfl) rfl
theorem w_41 : (Jvm.Cond.methodLink "HotEditions$Code" (3 : Nat) ({ cls := "java/lang/Object", name := "<init>", desc := "()V" } : MethodName)) ∈ pmWs := pmWs_1 (List.mem_of_getElem? (i := 41) rfl) rfl
theorem w_42 : (Jvm.Cond.fieldLink "HotEditions$Code" (11 : Nat) "HotEditions$Code" "cells" "[I") ∈ pmWs := pmWs_1 (List.mem_of_getElem? (i := 42) rfl) rfl
theorem w_43 : (Jvm.Cond.fieldLink "HotEditions$Code" (15 : Nat) "HotEditions$Code" "length" "I") ∈ pmWs := pmWs_1 (List.mem_of_getElem? (i := 43) rfl) rfl
theorem w_44 : (Jvm.Cond.fieldLinkNest "HotEditions$Calls" (60 : Nat) "HotEditions$Code" "length" "I" "HotEditions") ∈ pmWs := pmWs_1 (List.mem_of_getElem? (i := 44) rfl) rfl
theorem w_45 : (Jvm.Cond.fieldLinkNest "HotEditions$Rules" (75 : Nat) "HotEditions$Code" "length" "I" "HotEditions") ∈ pmWs := pmWs_1 (List.mem_of_getElem? (i := 45) rfl) rfl
theorem w_46 : (Jvm.Cond.laysFinal "HotEditions$Code" "HotEditions$Code" "cells" "[I") ∈ pmWs := pmWs_1 (List.mem_of_getElem? (i := 46) rfl) rfl
theorem w_48 : (Jvm.Cond.lays "HotEditions$Code" "HotEditions$Code" "length" "I") ∈ pmWs := pmWs_1 (List.mem_of_getElem? (i := 48) rfl) rfl
theorem w_51 : (Jvm.Cond.arrayClass FieldType.int) ∈ pmWs := pmWs_1 (List.mem_of_getElem? (i := 51) rfl) rfl
theorem w_52 : (Jvm.Cond.fieldLink "HotEditions$Method" (7 : Nat) "HotEditions$Method" "name" "I") ∈ pmWs := pmWs_1 (List.mem_of_getElem? (i := 52) rfl) rfl
theorem w_53 : (Jvm.Cond.fieldLinkNest "HotEditions$Transformer" (61 : Nat) "HotEditions$Method" "name" "I" "HotEditions") ∈ pmWs := pmWs_1 (List.mem_of_getElem? (i := 53) rfl) rfl
theorem w_54 : (Jvm.Cond.fieldLinkNest "HotEditions$Definition" (51 : Nat) "HotEditions$Method" "name" "I" "HotEditions") ∈ pmWs := pmWs_1 (List.mem_of_getElem? (i := 54) rfl) rfl
theorem w_55 : (Jvm.Cond.fieldLink "HotEditions$Method" (13 : Nat) "HotEditions$Method" "flags" "I") ∈ pmWs := pmWs_1 (List.mem_of_getElem? (i := 55) rfl) rfl
theorem w_56 : (Jvm.Cond.fieldLinkNest "HotEditions$Definition" (54 : Nat) "HotEditions$Method" "flags" "I" "HotEditions") ∈ pmWs := pmWs_1 (List.mem_of_getElem? (i := 56) rfl) rfl
theorem w_57 : (Jvm.Cond.fieldLink "HotEditions$Method" (19 : Nat) "HotEditions$Method" "body" "LHotEditions$Code;") ∈ pmWs := pmWs_1 (List.mem_of_getElem? (i := 57) rfl) rfl
theorem w_58 : (Jvm.Cond.fieldLinkNest "HotEditions$Calls" (46 : Nat) "HotEditions$Method" "body" "LHotEditions$Code;" "HotEditions") ∈ pmWs := pmWs_1 (List.mem_of_getElem? (i := 58) rfl) rfl
theorem w_59 : (Jvm.Cond.fieldLinkNest "HotEditions$Transformer" (37 : Nat) "HotEditions$Method" "body" "LHotEditions$Code;" "HotEditions") ∈ pmWs := pmWs_1 (List.mem_of_getElem? (i := 59) rfl) rfl
theorem w_60 : (Jvm.Cond.fieldLinkNest "HotEditions$Rules" (69 : Nat) "HotEditions$Method" "body" "LHotEditions$Code;" "HotEditions") ∈ pmWs := pmWs_1 (List.mem_of_getElem? (i := 60) rfl) rfl
theorem w_61 : (Jvm.Cond.fieldLinkNest "HotEditions$Definition" (57 : Nat) "HotEditions$Method" "body" "LHotEditions$Code;" "HotEditions") ∈ pmWs := pmWs_1 (List.mem_of_getElem? (i := 61) rfl) rfl
theorem w_62 : (Jvm.Cond.fieldLinkNest "HotEditions" (94 : Nat) "HotEditions$Method" "body" "LHotEditions$Code;" "HotEditions") ∈ pmWs := pmWs_1 (List.mem_of_getElem? (i := 62) rfl) rfl
theorem w_63 : (Jvm.Cond.lays "HotEditions$Method" "HotEditions$Method" "name" "I") ∈ pmWs := pmWs_1 (List.mem_of_getElem? (i := 63) rfl) rfl
theorem w_65 : (Jvm.Cond.lays "HotEditions$Method" "HotEditions$Method" "flags" "I") ∈ pmWs := pmWs_1 (List.mem_of_getElem? (i := 65) rfl) rfl
theorem w_67 : (Jvm.Cond.laysFinal "HotEditions$Method" "HotEditions$Method" "body" "LHotEditions$Code;") ∈ pmWs := pmWs_1 (List.mem_of_getElem? (i := 67) rfl) rfl
theorem w_70 : (Jvm.Cond.methodLink "HotEditions$Definition" (38 : Nat) ({ cls := "HotEditions$Definition", name := "clear", desc := "()V" } : MethodName)) ∈ pmWs := pmWs_1 (List.mem_of_getElem? (i := 70) rfl) rfl
theorem w_71 : (Jvm.Cond.instanceMethod ({ cls := "HotEditions$Definition", name := "clear", desc := "()V" } : MethodName)) ∈ pmWs := pmWs_1 (List.mem_of_getElem? (i := 71) rfl) rfl
theorem w_72 : (Jvm.Cond.selects "HotEditions$Definition" ({ cls := "HotEditions$Definition", name := "clear", desc := "()V" } : MethodName) ({ cls := "HotEditions$Definition", name := "clear", desc := "()V" } : MethodName)) ∈ pmWs := pmWs_1 (List.mem_of_getElem? (i := 72) rfl) rfl
theorem w_73 : (Jvm.Cond.code ({ cls := "HotEditions$Definition", name := "clear", desc := "()V" } : MethodName) prog_5_method_2_code (1 : Nat) (Option.none : Option FieldType)) ∈ pmWs := pmWs_1 (List.mem_of_getElem? (i := 73) rfl) rfl
theorem w_74 : (Jvm.Cond.fieldLink "HotEditions$Definition" (9 : Nat) "HotEditions$Definition" "parts" "[I") ∈ pmWs := pmWs_1 (List.mem_of_getElem? (i := 74) rfl) rfl
theorem w_75 : (Jvm.Cond.fieldLinkNest "HotEditions$Rules" (19 : Nat) "HotEditions$Definition" "parts" "[I" "HotEditions") ∈ pmWs := pmWs_1 (List.mem_of_getElem? (i := 75) rfl) rfl
theorem w_76 : (Jvm.Cond.fieldLinkNest "HotEditions$Transformer" (49 : Nat) "HotEditions$Definition" "parts" "[I" "HotEditions") ∈ pmWs := pmWs_1 (List.mem_of_getElem? (i := 76) rfl) rfl
theorem w_77 : (Jvm.Cond.fieldLinkNest "HotEditions" (71 : Nat) "HotEditions$Definition" "parts" "[I" "HotEditions") ∈ pmWs := pmWs_1 (List.mem_of_getElem? (i := 77) rfl) rfl
theorem w_78 : (Jvm.Cond.fieldLink "HotEditions$Definition" (15 : Nat) "HotEditions$Definition" "interfaces" "[I") ∈ pmWs := pmWs_1 (List.mem_of_getElem? (i := 78) rfl) rfl
theorem w_79 : (Jvm.Cond.fieldLink "HotEditions$Definition" (18 : Nat) "HotEditions$Definition" "interfaceCount" "I") ∈ pmWs := pmWs_1 (List.mem_of_getElem? (i := 79) rfl) rfl
theorem w_80 : (Jvm.Cond.fieldLink "HotEditions$Definition" (22 : Nat) "HotEditions$Definition" "fieldCells" "[I") ∈ pmWs := pmWs_1 (List.mem_of_getElem? (i := 80) rfl) rfl
theorem w_81 : (Jvm.Cond.fieldLink "HotEditions$Definition" (25 : Nat) "HotEditions$Definition" "fieldCount" "I") ∈ pmWs := pmWs_1 (List.mem_of_getElem? (i := 81) rfl) rfl
theorem w_82 : (Jvm.Cond.fieldLink "HotEditions$Definition" (30 : Nat) "HotEditions$Definition" "methods" "[LHotEditions$Method;") ∈ pmWs := pmWs_1 (List.mem_of_getElem? (i := 82) rfl) rfl
theorem w_83 : (Jvm.Cond.fieldLinkNest "HotEditions$Transformer" (33 : Nat) "HotEditions$Definition" "methods" "[LHotEditions$Method;" "HotEditions") ∈ pmWs := pmWs_1 (List.mem_of_getElem? (i := 83) rfl) rfl
theorem w_84 : (Jvm.Cond.fieldLinkNest "HotEditions$Rules" (65 : Nat) "HotEditions$Definition" "methods" "[LHotEditions$Method;" "HotEditions") ∈ pmWs := pmWs_1 (List.mem_of_getElem? (i := 84) rfl) rfl
theorem w_85 : (Jvm.Cond.fieldLinkNest "HotEditions" (90 : Nat) "HotEditions$Definition" "methods" "[LHotEditions$Method;" "HotEditions") ∈ pmWs := pmWs_1 (List.mem_of_getElem? (i := 85) rfl) rfl
theorem w_86 : (Jvm.Cond.fieldLink "HotEditions$Definition" (34 : Nat) "HotEditions$Definition" "methodCount" "I") ∈ pmWs := pmWs_1 (List.mem_of_getElem? (i := 86) rfl) rfl
theorem w_87 : (Jvm.Cond.fieldLinkNest "HotEditions$Transformer" (28 : Nat) "HotEditions$Definition" "methodCount" "I" "HotEditions") ∈ pmWs := pmWs_1 (List.mem_of_getElem? (i := 87) rfl) rfl
theorem w_88 : (Jvm.Cond.fieldLinkNest "HotEditions$Rules" (61 : Nat) "HotEditions$Definition" "methodCount" "I" "HotEditions") ∈ pmWs := pmWs_1 (List.mem_of_getElem? (i := 88) rfl) rfl
theorem w_89 : (Jvm.Cond.fieldLinkNest "HotEditions" (87 : Nat) "HotEditions$Definition" "methodCount" "I" "HotEditions") ∈ pmWs := pmWs_1 (List.mem_of_getElem? (i := 89) rfl) rfl
theorem w_90 : (Jvm.Cond.laysFinal "HotEditions$Definition" "HotEditions$Definition" "parts" "[I") ∈ pmWs := pmWs_1 (List.mem_of_getElem? (i := 90) rfl) rfl
theorem w_92 : (Jvm.Cond.laysFinal "HotEditions$Definition" "HotEditions$Definition" "interfaces" "[I") ∈ pmWs := pmWs_1 (List.mem_of_getElem? (i := 92) rfl) rfl
theorem w_94 : (Jvm.Cond.lays "HotEditions$Definition" "HotEditions$Definition" "interfaceCount" "I") ∈ pmWs := pmWs_1 (List.mem_of_getElem? (i := 94) rfl) rfl
theorem w_96 : (Jvm.Cond.laysFinal "HotEditions$Definition" "HotEditions$Definition" "fieldCells" "[I") ∈ pmWs := pmWs_1 (List.mem_of_getElem? (i := 96) rfl) rfl
theorem w_98 : (Jvm.Cond.lays "HotEditions$Definition" "HotEditions$Definition" "fieldCount" "I") ∈ pmWs := pmWs_1 (List.mem_of_getElem? (i := 98) rfl) rfl
theorem w_100 : (Jvm.Cond.laysFinal "HotEditions$Definition" "HotEditions$Definition" "methods" "[LHotEditions$Method;") ∈ pmWs := pmWs_1 (List.mem_of_getElem? (i := 100) rfl) rfl
theorem w_102 : (Jvm.Cond.lays "HotEditions$Definition" "HotEditions$Definition" "methodCount" "I") ∈ pmWs := pmWs_1 (List.mem_of_getElem? (i := 102) rfl) rfl
theorem w_105 : (Jvm.Cond.classLink "HotEditions" (20 : Nat) "HotEditions$Shelf") ∈ pmWs := pmWs_1 (List.mem_of_getElem? (i := 105) rfl) rfl
theorem w_106 : (Jvm.Cond.instantiable "HotEditions$Shelf" (1 : Nat)) ∈ pmWs := pmWs_1 (List.mem_of_getElem? (i := 106) rfl) rfl
theorem w_107 : (Jvm.Cond.methodLinkNest "HotEditions" (22 : Nat) ({ cls := "HotEditions$Shelf", name := "<init>", desc := "()V" } : MethodName) "HotEditions") ∈ pmWs := pmWs_1 (List.mem_of_getElem? (i := 107) rfl) rfl
theorem w_108 : (Jvm.Cond.instanceMethod ({ cls := "HotEditions$Shelf", name := "<init>", desc := "()V" } : MethodName)) ∈ pmWs := pmWs_1 (List.mem_of_getElem? (i := 108) rfl) rfl
theorem w_109 : (Jvm.Cond.code ({ cls := "HotEditions$Shelf", name := "<init>", desc := "()V" } : MethodName) prog_10_method_1_code (1 : Nat) (Option.none : Option FieldType)) ∈ pmWs := pmWs_1 (List.mem_of_getElem? (i := 109) rfl) rfl
theorem w_110 : (Jvm.Cond.methodLink "HotEditions$Shelf" (3 : Nat) ({ cls := "java/lang/Object", name := "<init>", desc := "()V" } : MethodName)) ∈ pmWs := pmWs_1 (List.mem_of_getElem? (i := 110) rfl) rfl
theorem w_111 : (Jvm.Cond.classLink "HotEditions$Shelf" (9 : Nat) "HotEditions$LoadedClass") ∈ pmWs := pmWs_1 (List.mem_of_getElem? (i := 111) rfl) rfl
theorem w_112 : (Jvm.Cond.arrayOver (FieldType.object "HotEditions$LoadedClass")) ∈ pmWs := pmWs_1 (List.mem_of_getElem? (i := 112) rfl) rfl
theorem w_113 : (Jvm.Cond.fieldLink "HotEditions$Shelf" (11 : Nat) "HotEditions$Shelf" "places" "[LHotEditions$LoadedClass;") ∈ pmWs := pmWs_1 (List.mem_of_getElem? (i := 113) rfl) rfl
theorem w_114 : (Jvm.Cond.laysFinal "HotEditions$Shelf" "HotEditions$Shelf" "places" "[LHotEditions$LoadedClass;") ∈ pmWs := pmWs_1 (List.mem_of_getElem? (i := 114) rfl) rfl
theorem w_117 : (Jvm.Cond.classLink "HotEditions" (27 : Nat) "HotEditions$Chain") ∈ pmWs := pmWs_1 (List.mem_of_getElem? (i := 117) rfl) rfl
theorem w_118 : (Jvm.Cond.instantiable "HotEditions$Chain" (1 : Nat)) ∈ pmWs := pmWs_1 (List.mem_of_getElem? (i := 118) rfl) rfl
theorem w_119 : (Jvm.Cond.methodLink "HotEditions" (29 : Nat) ({ cls := "HotEditions$Chain", name := "<init>", desc := "()V" } : MethodName)) ∈ pmWs := pmWs_1 (List.mem_of_getElem? (i := 119) rfl) rfl
theorem w_120 : (Jvm.Cond.instanceMethod ({ cls := "HotEditions$Chain", name := "<init>", desc := "()V" } : MethodName)) ∈ pmWs := pmWs_1 (List.mem_of_getElem? (i := 120) rfl) rfl
theorem w_121 : (Jvm.Cond.code ({ cls := "HotEditions$Chain", name := "<init>", desc := "()V" } : MethodName) prog_3_method_1_code (2 : Nat) (Option.none : Option FieldType)) ∈ pmWs := pmWs_1 (List.mem_of_getElem? (i := 121) rfl) rfl
theorem w_122 : (Jvm.Cond.methodLink "HotEditions$Chain" (3 : Nat) ({ cls := "java/lang/Object", name := "<init>", desc := "()V" } : MethodName)) ∈ pmWs := pmWs_1 (List.mem_of_getElem? (i := 122) rfl) rfl
theorem w_123 : (Jvm.Cond.classLink "HotEditions$Chain" (9 : Nat) "HotEditions$Transformer") ∈ pmWs := pmWs_1 (List.mem_of_getElem? (i := 123) rfl) rfl
theorem w_124 : (Jvm.Cond.arrayOver (FieldType.object "HotEditions$Transformer")) ∈ pmWs := pmWs_1 (List.mem_of_getElem? (i := 124) rfl) rfl
theorem w_125 : (Jvm.Cond.instantiable "HotEditions$Transformer" (5 : Nat)) ∈ pmWs := pmWs_1 (List.mem_of_getElem? (i := 125) rfl) rfl
theorem w_126 : (Jvm.Cond.methodLinkNest "HotEditions$Chain" (17 : Nat) ({ cls := "HotEditions$Transformer", name := "<init>", desc := "()V" } : MethodName) "HotEditions") ∈ pmWs := pmWs_1 (List.mem_of_getElem? (i := 126) rfl) rfl
theorem w_127 : (Jvm.Cond.instanceMethod ({ cls := "HotEditions$Transformer", name := "<init>", desc := "()V" } : MethodName)) ∈ pmWs := pmWs_1 (List.mem_of_getElem? (i := 127) rfl) rfl
theorem w_128 : (Jvm.Cond.code ({ cls := "HotEditions$Transformer", name := "<init>", desc := "()V" } : MethodName) prog_11_method_1_code (1 : Nat) (Option.none : Option FieldType)) ∈ pmWs := pmWs_1 (List.mem_of_getElem? (i := 128) rfl) rfl
theorem w_129 : (Jvm.Cond.methodLink "HotEditions$Transformer" (3 : Nat) ({ cls := "java/lang/Object", name := "<init>", desc := "()V" } : MethodName)) ∈ pmWs := pmWs_1 (List.mem_of_getElem? (i := 129) rfl) rfl
theorem w_130 : (Jvm.Cond.fieldLink "HotEditions$Transformer" (9 : Nat) "HotEditions$Transformer" "present" "Z") ∈ pmWs := pmWs_1 (List.mem_of_getElem? (i := 130) rfl) rfl
theorem w_131 : (Jvm.Cond.fieldLinkNest "HotEditions$Chain" (18 : Nat) "HotEditions$Transformer" "present" "Z" "HotEditions") ∈ pmWs := pmWs_1 (List.mem_of_getElem? (i := 131) rfl) rfl
theorem w_132 : (Jvm.Cond.fieldLink "HotEditions$Transformer" (15 : Nat) "HotEditions$Transformer" "kind" "I") ∈ pmWs := pmWs_1 (List.mem_of_getElem? (i := 132) rfl) rfl
theorem w_133 : (Jvm.Cond.fieldLinkNest "HotEditions$Chain" (22 : Nat) "HotEditions$Transformer" "kind" "I" "HotEditions") ∈ pmWs := pmWs_1 (List.mem_of_getElem? (i := 133) rfl) rfl
theorem w_134 : (Jvm.Cond.fieldLink "HotEditions$Transformer" (19 : Nat) "HotEditions$Transformer" "value" "I") ∈ pmWs := pmWs_1 (List.mem_of_getElem? (i := 134) rfl) rfl
theorem w_135 : (Jvm.Cond.fieldLinkNest "HotEditions$Chain" (26 : Nat) "HotEditions$Transformer" "value" "I" "HotEditions") ∈ pmWs := pmWs_1 (List.mem_of_getElem? (i := 135) rfl) rfl
theorem w_136 : (Jvm.Cond.fieldLink "HotEditions$Transformer" (22 : Nat) "HotEditions$Transformer" "only" "I") ∈ pmWs := pmWs_1 (List.mem_of_getElem? (i := 136) rfl) rfl
theorem w_137 : (Jvm.Cond.fieldLinkNest "HotEditions$Chain" (29 : Nat) "HotEditions$Transformer" "only" "I" "HotEditions") ∈ pmWs := pmWs_1 (List.mem_of_getElem? (i := 137) rfl) rfl
theorem w_138 : (Jvm.Cond.fieldLink "HotEditions$Transformer" (25 : Nat) "HotEditions$Transformer" "repeats" "Z") ∈ pmWs := pmWs_1 (List.mem_of_getElem? (i := 138) rfl) rfl
theorem w_139 : (Jvm.Cond.fieldLinkNest "HotEditions$Chain" (32 : Nat) "HotEditions$Transformer" "repeats" "Z" "HotEditions") ∈ pmWs := pmWs_1 (List.mem_of_getElem? (i := 139) rfl) rfl
theorem w_140 : (Jvm.Cond.lays "HotEditions$Transformer" "HotEditions$Transformer" "present" "Z") ∈ pmWs := pmWs_1 (List.mem_of_getElem? (i := 140) rfl) rfl
theorem w_142 : (Jvm.Cond.lays "HotEditions$Transformer" "HotEditions$Transformer" "kind" "I") ∈ pmWs := pmWs_1 (List.mem_of_getElem? (i := 142) rfl) rfl
theorem w_144 : (Jvm.Cond.lays "HotEditions$Transformer" "HotEditions$Transformer" "value" "I") ∈ pmWs := pmWs_1 (List.mem_of_getElem? (i := 144) rfl) rfl
theorem w_146 : (Jvm.Cond.lays "HotEditions$Transformer" "HotEditions$Transformer" "only" "I") ∈ pmWs := pmWs_1 (List.mem_of_getElem? (i := 146) rfl) rfl
theorem w_148 : (Jvm.Cond.lays "HotEditions$Transformer" "HotEditions$Transformer" "repeats" "Z") ∈ pmWs := pmWs_1 (List.mem_of_getElem? (i := 148) rfl) rfl
theorem w_151 : (Jvm.Cond.fieldLink "HotEditions$Chain" (11 : Nat) "HotEditions$Chain" "links" "[LHotEditions$Transformer;") ∈ pmWs := pmWs_1 (List.mem_of_getElem? (i := 151) rfl) rfl
theorem w_152 : (Jvm.Cond.laysFinal "HotEditions$Chain" "HotEditions$Chain" "links" "[LHotEditions$Transformer;") ∈ pmWs := pmWs_1 (List.mem_of_getElem? (i := 152) rfl) rfl
theorem w_155 : (Jvm.Cond.classLink "HotEditions" (34 : Nat) "HotEditions$Trial") ∈ pmWs := pmWs_1 (List.mem_of_getElem? (i := 155) rfl) rfl
theorem w_156 : (Jvm.Cond.arrayOver (FieldType.object "HotEditions$Trial")) ∈ pmWs := pmWs_1 (List.mem_of_getElem? (i := 156) rfl) rfl
theorem w_157 : (Jvm.Cond.instantiable "HotEditions$Trial" (3 : Nat)) ∈ pmWs := pmWs_1 (List.mem_of_getElem? (i := 157) rfl) rfl
theorem w_158 : (Jvm.Cond.methodLinkNest "HotEditions" (43 : Nat) ({ cls := "HotEditions$Trial", name := "<init>", desc := "()V" } : MethodName) "HotEditions") ∈ pmWs := pmWs_1 (List.mem_of_getElem? (i := 158) rfl) rfl
theorem w_159 : (Jvm.Cond.instanceMethod ({ cls := "HotEditions$Trial", name := "<init>", desc := "()V" } : MethodName)) ∈ pmWs := pmWs_1 (List.mem_of_getElem? (i := 159) rfl) rfl
theorem w_160 : (Jvm.Cond.code ({ cls := "HotEditions$Trial", name := "<init>", desc := "()V" } : MethodName) prog_12_method_1_code (1 : Nat) (Option.none : Option FieldType)) ∈ pmWs := pmWs_1 (List.mem_of_getElem? (i := 160) rfl) rfl
theorem w_161 : (Jvm.Cond.methodLink "HotEditions$Trial" (3 : Nat) ({ cls := "java/lang/Object", name := "<init>", desc := "()V" } : MethodName)) ∈ pmWs := pmWs_1 (List.mem_of_getElem? (i := 161) rfl) rfl
theorem w_162 : (Jvm.Cond.classLink "HotEditions$Trial" (15 : Nat) "HotEditions$Definition") ∈ pmWs := pmWs_1 (List.mem_of_getElem? (i := 162) rfl) rfl
theorem w_163 : (Jvm.Cond.methodLink "HotEditions$Trial" (17 : Nat) ({ cls := "HotEditions$Definition", name := "<init>", desc := "()V" } : MethodName)) ∈ pmWs := pmWs_1 (List.mem_of_getElem? (i := 163) rfl) rfl
theorem w_164 : (Jvm.Cond.fieldLink "HotEditions$Trial" (9 : Nat) "HotEditions$Trial" "target" "I") ∈ pmWs := pmWs_1 (List.mem_of_getElem? (i := 164) rfl) rfl
theorem w_165 : (Jvm.Cond.fieldLinkNest "HotEditions$Chain" (41 : Nat) "HotEditions$Trial" "target" "I" "HotEditions") ∈ pmWs := pmWs_1 (List.mem_of_getElem? (i := 165) rfl) rfl
theorem w_166 : (Jvm.Cond.fieldLinkNest "HotEditions" (194 : Nat) "HotEditions$Trial" "target" "I" "HotEditions") ∈ pmWs := pmWs_1 (List.mem_of_getElem? (i := 166) rfl) rfl
theorem w_167 : (Jvm.Cond.fieldLink "HotEditions$Trial" (18 : Nat) "HotEditions$Trial" "form" "LHotEditions$Definition;") ∈ pmWs := pmWs_1 (List.mem_of_getElem? (i := 167) rfl) rfl
theorem w_168 : (Jvm.Cond.fieldLinkNest "HotEditions$Shelf" (22 : Nat) "HotEditions$Trial" "form" "LHotEditions$Definition;" "HotEditions") ∈ pmWs := pmWs_1 (List.mem_of_getElem? (i := 168) rfl) rfl
theorem w_169 : (Jvm.Cond.fieldLinkNest "HotEditions$Chain" (35 : Nat) "HotEditions$Trial" "form" "LHotEditions$Definition;" "HotEditions") ∈ pmWs := pmWs_1 (List.mem_of_getElem? (i := 169) rfl) rfl
theorem w_170 : (Jvm.Cond.fieldLinkNest "HotEditions" (114 : Nat) "HotEditions$Trial" "form" "LHotEditions$Definition;" "HotEditions") ∈ pmWs := pmWs_1 (List.mem_of_getElem? (i := 170) rfl) rfl
theorem w_171 : (Jvm.Cond.fieldLink "HotEditions$Trial" (22 : Nat) "HotEditions$Trial" "original" "LHotEditions$Definition;") ∈ pmWs := pmWs_1 (List.mem_of_getElem? (i := 171) rfl) rfl
theorem w_172 : (Jvm.Cond.fieldLinkNest "HotEditions$Shelf" (35 : Nat) "HotEditions$Trial" "original" "LHotEditions$Definition;" "HotEditions") ∈ pmWs := pmWs_1 (List.mem_of_getElem? (i := 172) rfl) rfl
theorem w_173 : (Jvm.Cond.fieldLinkNest "HotEditions$Chain" (48 : Nat) "HotEditions$Trial" "original" "LHotEditions$Definition;" "HotEditions") ∈ pmWs := pmWs_1 (List.mem_of_getElem? (i := 173) rfl) rfl
theorem w_174 : (Jvm.Cond.fieldLinkNest "HotEditions" (197 : Nat) "HotEditions$Trial" "original" "LHotEditions$Definition;" "HotEditions") ∈ pmWs := pmWs_1 (List.mem_of_getElem? (i := 174) rfl) rfl
theorem w_175 : (Jvm.Cond.lays "HotEditions$Trial" "HotEditions$Trial" "target" "I") ∈ pmWs := pmWs_1 (List.mem_of_getElem? (i := 175) rfl) rfl
theorem w_177 : (Jvm.Cond.laysFinal "HotEditions$Trial" "HotEditions$Trial" "form" "LHotEditions$Definition;") ∈ pmWs := pmWs_1 (List.mem_of_getElem? (i := 177) rfl) rfl
theorem w_179 : (Jvm.Cond.laysFinal "HotEditions$Trial" "HotEditions$Trial" "original" "LHotEditions$Definition;") ∈ pmWs := pmWs_1 (List.mem_of_getElem? (i := 179) rfl) rfl
theorem w_182 : (Jvm.Cond.classLink "HotEditions" (48 : Nat) "HotEditions$Calls") ∈ pmWs := pmWs_1 (List.mem_of_getElem? (i := 182) rfl) rfl
theorem w_183 : (Jvm.Cond.arrayOver (FieldType.object "HotEditions$Calls")) ∈ pmWs := pmWs_1 (List.mem_of_getElem? (i := 183) rfl) rfl
theorem w_184 : (Jvm.Cond.instantiable "HotEditions$Calls" (3 : Nat)) ∈ pmWs := pmWs_1 (List.mem_of_getElem? (i := 184) rfl) rfl
theorem w_185 : (Jvm.Cond.methodLink "HotEditions" (54 : Nat) ({ cls := "HotEditions$Calls", name := "<init>", desc := "()V" } : MethodName)) ∈ pmWs := pmWs_1 (List.mem_of_getElem? (i := 185) rfl) rfl
theorem w_186 : (Jvm.Cond.instanceMethod ({ cls := "HotEditions$Calls", name := "<init>", desc := "()V" } : MethodName)) ∈ pmWs := pmWs_1 (List.mem_of_getElem? (i := 186) rfl) rfl
theorem w_187 : (Jvm.Cond.code ({ cls := "HotEditions$Calls", name := "<init>", desc := "()V" } : MethodName) prog_2_method_1_code (2 : Nat) (Option.none : Option FieldType)) ∈ pmWs := pmWs_1 (List.mem_of_getElem? (i := 187) rfl) rfl
theorem w_188 : (Jvm.Cond.methodLink "HotEditions$Calls" (3 : Nat) ({ cls := "java/lang/Object", name := "<init>", desc := "()V" } : MethodName)) ∈ pmWs := pmWs_1 (List.mem_of_getElem? (i := 188) rfl) rfl
theorem w_189 : (Jvm.Cond.classLink "HotEditions$Calls" (9 : Nat) "HotEditions$Frame") ∈ pmWs := pmWs_1 (List.mem_of_getElem? (i := 189) rfl) rfl
theorem w_190 : (Jvm.Cond.arrayOver (FieldType.object "HotEditions$Frame")) ∈ pmWs := pmWs_1 (List.mem_of_getElem? (i := 190) rfl) rfl
theorem w_191 : (Jvm.Cond.instantiable "HotEditions$Frame" (5 : Nat)) ∈ pmWs := pmWs_1 (List.mem_of_getElem? (i := 191) rfl) rfl
theorem w_192 : (Jvm.Cond.methodLinkNest "HotEditions$Calls" (24 : Nat) ({ cls := "HotEditions$Frame", name := "<init>", desc := "()V" } : MethodName) "HotEditions") ∈ pmWs := pmWs_1 (List.mem_of_getElem? (i := 192) rfl) rfl
theorem w_193 : (Jvm.Cond.instanceMethod ({ cls := "HotEditions$Frame", name := "<init>", desc := "()V" } : MethodName)) ∈ pmWs := pmWs_1 (List.mem_of_getElem? (i := 193) rfl) rfl
theorem w_194 : (Jvm.Cond.code ({ cls := "HotEditions$Frame", name := "<init>", desc := "()V" } : MethodName) prog_6_method_1_code (1 : Nat) (Option.none : Option FieldType)) ∈ pmWs := pmWs_1 (List.mem_of_getElem? (i := 194) rfl) rfl
theorem w_195 : (Jvm.Cond.methodLink "HotEditions$Frame" (3 : Nat) ({ cls := "java/lang/Object", name := "<init>", desc := "()V" } : MethodName)) ∈ pmWs := pmWs_1 (List.mem_of_getElem? (i := 195) rfl) rfl
theorem w_196 : (Jvm.Cond.classLink "HotEditions$Frame" (18 : Nat) "HotEditions$Code") ∈ pmWs := pmWs_1 (List.mem_of_getElem? (i := 196) rfl) rfl
theorem w_197 : (Jvm.Cond.methodLinkNest "HotEditions$Frame" (20 : Nat) ({ cls := "HotEditions$Code", name := "<init>", desc := "()V" } : MethodName) "HotEditions") ∈ pmWs := pmWs_1 (List.mem_of_getElem? (i := 197) rfl) rfl
theorem w_198 : (Jvm.Cond.fieldLink "HotEditions$Frame" (9 : Nat) "HotEditions$Frame" "ofClass" "I") ∈ pmWs := pmWs_1 (List.mem_of_getElem? (i := 198) rfl) rfl
theorem w_199 : (Jvm.Cond.fieldLinkNest "HotEditions" (183 : Nat) "HotEditions$Frame" "ofClass" "I" "HotEditions") ∈ pmWs := pmWs_1 (List.mem_of_getElem? (i := 199) rfl) rfl
theorem w_200 : (Jvm.Cond.fieldLink "HotEditions$Frame" (15 : Nat) "HotEditions$Frame" "edition" "I") ∈ pmWs := pmWs_1 (List.mem_of_getElem? (i := 200) rfl) rfl
theorem w_201 : (Jvm.Cond.fieldLinkNest "HotEditions" (178 : Nat) "HotEditions$Frame" "edition" "I" "HotEditions") ∈ pmWs := pmWs_1 (List.mem_of_getElem? (i := 201) rfl) rfl
theorem w_202 : (Jvm.Cond.fieldLink "HotEditions$Frame" (21 : Nat) "HotEditions$Frame" "body" "LHotEditions$Code;") ∈ pmWs := pmWs_1 (List.mem_of_getElem? (i := 202) rfl) rfl
theorem w_203 : (Jvm.Cond.fieldLinkNest "HotEditions$Calls" (59 : Nat) "HotEditions$Frame" "body" "LHotEditions$Code;" "HotEditions") ∈ pmWs := pmWs_1 (List.mem_of_getElem? (i := 203) rfl) rfl
theorem w_204 : (Jvm.Cond.fieldLink "HotEditions$Frame" (25 : Nat) "HotEditions$Frame" "place" "I") ∈ pmWs := pmWs_1 (List.mem_of_getElem? (i := 204) rfl) rfl
theorem w_205 : (Jvm.Cond.fieldLinkNest "HotEditions$Calls" (56 : Nat) "HotEditions$Frame" "place" "I" "HotEditions") ∈ pmWs := pmWs_1 (List.mem_of_getElem? (i := 205) rfl) rfl
theorem w_206 : (Jvm.Cond.fieldLink "HotEditions$Frame" (28 : Nat) "HotEditions$Frame" "sum" "I") ∈ pmWs := pmWs_1 (List.mem_of_getElem? (i := 206) rfl) rfl
theorem w_207 : (Jvm.Cond.fieldLinkNest "HotEditions$Calls" (65 : Nat) "HotEditions$Frame" "sum" "I" "HotEditions") ∈ pmWs := pmWs_1 (List.mem_of_getElem? (i := 207) rfl) rfl
theorem w_208 : (Jvm.Cond.lays "HotEditions$Frame" "HotEditions$Frame" "ofClass" "I") ∈ pmWs := pmWs_1 (List.mem_of_getElem? (i := 208) rfl) rfl
theorem w_210 : (Jvm.Cond.lays "HotEditions$Frame" "HotEditions$Frame" "edition" "I") ∈ pmWs := pmWs_1 (List.mem_of_getElem? (i := 210) rfl) rfl
theorem w_212 : (Jvm.Cond.laysFinal "HotEditions$Frame" "HotEditions$Frame" "body" "LHotEditions$Code;") ∈ pmWs := pmWs_1 (List.mem_of_getElem? (i := 212) rfl) rfl
theorem w_214 : (Jvm.Cond.lays "HotEditions$Frame" "HotEditions$Frame" "place" "I") ∈ pmWs := pmWs_1 (List.mem_of_getElem? (i := 214) rfl) rfl
theorem w_216 : (Jvm.Cond.lays "HotEditions$Frame" "HotEditions$Frame" "sum" "I") ∈ pmWs := pmWs_1 (List.mem_of_getElem? (i := 216) rfl) rfl
theorem w_219 : (Jvm.Cond.fieldLink "HotEditions$Calls" (11 : Nat) "HotEditions$Calls" "frames" "[LHotEditions$Frame;") ∈ pmWs := pmWs_1 (List.mem_of_getElem? (i := 219) rfl) rfl
theorem w_220 : (Jvm.Cond.fieldLinkNest "HotEditions" (198 : Nat) "HotEditions$Calls" "frames" "[LHotEditions$Frame;" "HotEditions") ∈ pmWs := pmWs_1 (List.mem_of_getElem? (i := 220) rfl) rfl
theorem w_221 : (Jvm.Cond.fieldLink "HotEditions$Calls" (17 : Nat) "HotEditions$Calls" "depth" "I") ∈ pmWs := pmWs_1 (List.mem_of_getElem? (i := 221) rfl) rfl
theorem w_222 : (Jvm.Cond.fieldLinkNest "HotEditions" (163 : Nat) "HotEditions$Calls" "depth" "I" "HotEditions") ∈ pmWs := pmWs_1 (List.mem_of_getElem? (i := 222) rfl) rfl
theorem w_223 : (Jvm.Cond.fieldLink "HotEditions$Calls" (21 : Nat) "HotEditions$Calls" "result" "I") ∈ pmWs := pmWs_1 (List.mem_of_getElem? (i := 223) rfl) rfl
theorem w_224 : (Jvm.Cond.fieldLinkNest "HotEditions" (186 : Nat) "HotEditions$Calls" "result" "I" "HotEditions") ∈ pmWs := pmWs_1 (List.mem_of_getElem? (i := 224) rfl) rfl
theorem w_225 : (Jvm.Cond.laysFinal "HotEditions$Calls" "HotEditions$Calls" "frames" "[LHotEditions$Frame;") ∈ pmWs := pmWs_1 (List.mem_of_getElem? (i := 225) rfl) rfl
theorem w_227 : (Jvm.Cond.lays "HotEditions$Calls" "HotEditions$Calls" "depth" "I") ∈ pmWs := pmWs_1 (List.mem_of_getElem? (i := 227) rfl) rfl
theorem w_229 : (Jvm.Cond.lays "HotEditions$Calls" "HotEditions$Calls" "result" "I") ∈ pmWs := pmWs_1 (List.mem_of_getElem? (i := 229) rfl) rfl
theorem w_232 : (Jvm.Cond.fieldLink "HotEditions" (10 : Nat) "HotEditions" "draft" "LHotEditions$Definition;") ∈ pmWs := pmWs_1 (List.mem_of_getElem? (i := 232) rfl) rfl
theorem w_233 : (Jvm.Cond.fieldLink "HotEditions" (16 : Nat) "HotEditions" "chosen" "I") ∈ pmWs := pmWs_1 (List.mem_of_getElem? (i := 233) rfl) rfl
theorem w_234 : (Jvm.Cond.fieldLink "HotEditions" (23 : Nat) "HotEditions" "shelf" "LHotEditions$Shelf;") ∈ pmWs := pmWs_1 (List.mem_of_getElem? (i := 234) rfl) rfl
theorem w_235 : (Jvm.Cond.fieldLink "HotEditions" (30 : Nat) "HotEditions" "chain" "LHotEditions$Chain;") ∈ pmWs := pmWs_1 (List.mem_of_getElem? (i := 235) rfl) rfl
theorem w_236 : (Jvm.Cond.fieldLink "HotEditions" (36 : Nat) "HotEditions" "batch" "[LHotEditions$Trial;") ∈ pmWs := pmWs_1 (List.mem_of_getElem? (i := 236) rfl) rfl
theorem w_237 : (Jvm.Cond.fieldLink "HotEditions" (40 : Nat) "HotEditions" "batchSize" "I") ∈ pmWs := pmWs_1 (List.mem_of_getElem? (i := 237) rfl) rfl
theorem w_238 : (Jvm.Cond.fieldLink "HotEditions" (44 : Nat) "HotEditions" "single" "LHotEditions$Trial;") ∈ pmWs := pmWs_1 (List.mem_of_getElem? (i := 238) rfl) rfl
theorem w_239 : (Jvm.Cond.fieldLink "HotEditions" (50 : Nat) "HotEditions" "threads" "[LHotEditions$Calls;") ∈ pmWs := pmWs_1 (List.mem_of_getElem? (i := 239) rfl) rfl
theorem w_240 : (Jvm.Cond.laysFinal "HotEditions" "HotEditions" "draft" "LHotEditions$Definition;") ∈ pmWs := pmWs_2 (List.mem_of_getElem? (i := 0) rfl) rfl
theorem w_242 : (Jvm.Cond.lays "HotEditions" "HotEditions" "chosen" "I") ∈ pmWs := pmWs_2 (List.mem_of_getElem? (i := 2) rfl) rfl
theorem w_244 : (Jvm.Cond.laysFinal "HotEditions" "HotEditions" "shelf" "LHotEditions$Shelf;") ∈ pmWs := pmWs_2 (List.mem_of_getElem? (i := 4) rfl) rfl
theorem w_246 : (Jvm.Cond.laysFinal "HotEditions" "HotEditions" "chain" "LHotEditions$Chain;") ∈ pmWs := pmWs_2 (List.mem_of_getElem? (i := 6) rfl) rfl
theorem w_248 : (Jvm.Cond.laysFinal "HotEditions" "HotEditions" "batch" "[LHotEditions$Trial;") ∈ pmWs := pmWs_2 (List.mem_of_getElem? (i := 8) rfl) rfl
theorem w_250 : (Jvm.Cond.lays "HotEditions" "HotEditions" "batchSize" "I") ∈ pmWs := pmWs_2 (List.mem_of_getElem? (i := 10) rfl) rfl
theorem w_252 : (Jvm.Cond.laysFinal "HotEditions" "HotEditions" "single" "LHotEditions$Trial;") ∈ pmWs := pmWs_2 (List.mem_of_getElem? (i := 12) rfl) rfl
theorem w_254 : (Jvm.Cond.laysFinal "HotEditions" "HotEditions" "threads" "[LHotEditions$Calls;") ∈ pmWs := pmWs_2 (List.mem_of_getElem? (i := 14) rfl) rfl
theorem w_257 : (Jvm.Cond.methodLink "HotEditionsLaw" (13 : Nat) ({ cls := "HotEditions", name := "blank", desc := "()V" } : MethodName)) ∈ pmWs := pmWs_2 (List.mem_of_getElem? (i := 17) rfl) rfl
theorem w_258 : (Jvm.Cond.instanceMethod ({ cls := "HotEditions", name := "blank", desc := "()V" } : MethodName)) ∈ pmWs := pmWs_2 (List.mem_of_getElem? (i := 18) rfl) rfl
theorem w_259 : (Jvm.Cond.selects "HotEditions" ({ cls := "HotEditions", name := "blank", desc := "()V" } : MethodName) ({ cls := "HotEditions", name := "blank", desc := "()V" } : MethodName)) ∈ pmWs := pmWs_2 (List.mem_of_getElem? (i := 19) rfl) rfl
theorem w_260 : (Jvm.Cond.code ({ cls := "HotEditions", name := "blank", desc := "()V" } : MethodName) prog_1_method_2_code (1 : Nat) (Option.none : Option FieldType)) ∈ pmWs := pmWs_2 (List.mem_of_getElem? (i := 20) rfl) rfl
theorem w_261 : (Jvm.Cond.methodLink "HotEditions" (55 : Nat) ({ cls := "HotEditions$Definition", name := "clear", desc := "()V" } : MethodName)) ∈ pmWs := pmWs_2 (List.mem_of_getElem? (i := 21) rfl) rfl
theorem w_262 : (Jvm.Cond.methodLink "HotEditionsLaw" (17 : Nat) ({ cls := "HotEditions", name := "copy", desc := "(I)Z" } : MethodName)) ∈ pmWs := pmWs_2 (List.mem_of_getElem? (i := 22) rfl) rfl
theorem w_263 : (Jvm.Cond.instanceMethod ({ cls := "HotEditions", name := "copy", desc := "(I)Z" } : MethodName)) ∈ pmWs := pmWs_2 (List.mem_of_getElem? (i := 23) rfl) rfl
theorem w_264 : (Jvm.Cond.selects "HotEditions" ({ cls := "HotEditions", name := "copy", desc := "(I)Z" } : MethodName) ({ cls := "HotEditions", name := "copy", desc := "(I)Z" } : MethodName)) ∈ pmWs := pmWs_2 (List.mem_of_getElem? (i := 24) rfl) rfl
theorem w_265 : (Jvm.Cond.code ({ cls := "HotEditions", name := "copy", desc := "(I)Z" } : MethodName) prog_1_method_3_code (3 : Nat) (Option.some FieldType.boolean)) ∈ pmWs := pmWs_2 (List.mem_of_getElem? (i := 25) rfl) rfl
theorem w_266 : (Jvm.Cond.methodLink "HotEditions" (58 : Nat) ({ cls := "HotEditions$Shelf", name := "find", desc := "(I)LHotEditions$LoadedClass;" } : MethodName)) ∈ pmWs := pmWs_2 (List.mem_of_getElem? (i := 26) rfl) rfl
theorem w_267 : (Jvm.Cond.instanceMethod ({ cls := "HotEditions$Shelf", name := "find", desc := "(I)LHotEditions$LoadedClass;" } : MethodName)) ∈ pmWs := pmWs_2 (List.mem_of_getElem? (i := 27) rfl) rfl
theorem w_268 : (Jvm.Cond.selects "HotEditions$Shelf" ({ cls := "HotEditions$Shelf", name := "find", desc := "(I)LHotEditions$LoadedClass;" } : MethodName) ({ cls := "HotEditions$Shelf", name := "find", desc := "(I)LHotEditions$LoadedClass;" } : MethodName)) ∈ pmWs := pmWs_2 (List.mem_of_getElem? (i := 28) rfl) rfl
theorem w_269 : (Jvm.Cond.code ({ cls := "HotEditions$Shelf", name := "find", desc := "(I)LHotEditions$LoadedClass;" } : MethodName) prog_10_method_2_code (2 : Nat) (Option.some (FieldType.object "HotEditions$LoadedClass"))) ∈ pmWs := pmWs_2 (List.mem_of_getElem? (i := 29) rfl) rfl
theorem w_270 : (Jvm.Cond.methodLink "HotEditions" (67 : Nat) ({ cls := "HotEditions$Definition", name := "become", desc := "(LHotEditions$Definition;)V" } : MethodName)) ∈ pmWs := pmWs_2 (List.mem_of_getElem? (i := 30) rfl) rfl
theorem w_271 : (Jvm.Cond.instanceMethod ({ cls := "HotEditions$Definition", name := "become", desc := "(LHotEditions$Definition;)V" } : MethodName)) ∈ pmWs := pmWs_2 (List.mem_of_getElem? (i := 31) rfl) rfl
theorem w_272 : (Jvm.Cond.selects "HotEditions$Definition" ({ cls := "HotEditions$Definition", name := "become", desc := "(LHotEditions$Definition;)V" } : MethodName) ({ cls := "HotEditions$Definition", name := "become", desc := "(LHotEditions$Definition;)V" } : MethodName)) ∈ pmWs := pmWs_2 (List.mem_of_getElem? (i := 32) rfl) rfl
theorem w_273 : (Jvm.Cond.code ({ cls := "HotEditions$Definition", name := "become", desc := "(LHotEditions$Definition;)V" } : MethodName) prog_5_method_3_code (3 : Nat) (Option.none : Option FieldType)) ∈ pmWs := pmWs_2 (List.mem_of_getElem? (i := 33) rfl) rfl
theorem w_274 : (Jvm.Cond.methodLink "HotEditions$Definition" (41 : Nat) ({ cls := "java/lang/System", name := "arraycopy", desc := "(Ljava/lang/Object;ILjava/lang/Object;II)V" } : MethodName)) ∈ pmWs := pmWs_2 (List.mem_of_getElem? (i := 34) rfl) rfl
theorem w_275 : (Jvm.Cond.static ({ cls := "java/lang/System", name := "arraycopy", desc := "(Ljava/lang/Object;ILjava/lang/Object;II)V" } : MethodName)) ∈ pmWs := pmWs_2 (List.mem_of_getElem? (i := 35) rfl) rfl
theorem w_276 : (Jvm.Cond.native ({ cls := "java/lang/System", name := "arraycopy", desc := "(Ljava/lang/Object;ILjava/lang/Object;II)V" } : MethodName)) ∈ pmWs := pmWs_2 (List.mem_of_getElem? (i := 36) rfl) rfl
theorem w_277 : (Jvm.Cond.methodLink "HotEditions$Definition" (47 : Nat) ({ cls := "HotEditions$Method", name := "become", desc := "(LHotEditions$Method;)V" } : MethodName)) ∈ pmWs := pmWs_2 (List.mem_of_getElem? (i := 37) rfl) rfl
theorem w_278 : (Jvm.Cond.instanceMethod ({ cls := "HotEditions$Method", name := "become", desc := "(LHotEditions$Method;)V" } : MethodName)) ∈ pmWs := pmWs_2 (List.mem_of_getElem? (i := 38) rfl) rfl
theorem w_279 : (Jvm.Cond.selects "HotEditions$Method" ({ cls := "HotEditions$Method", name := "become", desc := "(LHotEditions$Method;)V" } : MethodName) ({ cls := "HotEditions$Method", name := "become", desc := "(LHotEditions$Method;)V" } : MethodName)) ∈ pmWs := pmWs_2 (List.mem_of_getElem? (i := 39) rfl) rfl
theorem w_280 : (Jvm.Cond.code ({ cls := "HotEditions$Method", name := "become", desc := "(LHotEditions$Method;)V" } : MethodName) prog_8_method_2_code (2 : Nat) (Option.none : Option FieldType)) ∈ pmWs := pmWs_2 (List.mem_of_getElem? (i := 40) rfl) rfl
theorem w_281 : (Jvm.Cond.methodLink "HotEditions$Method" (23 : Nat) ({ cls := "HotEditions$Code", name := "become", desc := "(LHotEditions$Code;)V" } : MethodName)) ∈ pmWs := pmWs_2 (List.mem_of_getElem? (i := 41) rfl) rfl
theorem w_282 : (Jvm.Cond.instanceMethod ({ cls := "HotEditions$Code", name := "become", desc := "(LHotEditions$Code;)V" } : MethodName)) ∈ pmWs := pmWs_2 (List.mem_of_getElem? (i := 42) rfl) rfl
theorem w_283 : (Jvm.Cond.selects "HotEditions$Code" ({ cls := "HotEditions$Code", name := "become", desc := "(LHotEditions$Code;)V" } : MethodName) ({ cls := "HotEditions$Code", name := "become", desc := "(LHotEditions$Code;)V" } : MethodName)) ∈ pmWs := pmWs_2 (List.mem_of_getElem? (i := 43) rfl) rfl
theorem w_284 : (Jvm.Cond.code ({ cls := "HotEditions$Code", name := "become", desc := "(LHotEditions$Code;)V" } : MethodName) prog_4_method_3_code (2 : Nat) (Option.none : Option FieldType)) ∈ pmWs := pmWs_2 (List.mem_of_getElem? (i := 44) rfl) rfl
theorem w_285 : (Jvm.Cond.methodLink "HotEditions$Code" (19 : Nat) ({ cls := "java/lang/System", name := "arraycopy", desc := "(Ljava/lang/Object;ILjava/lang/Object;II)V" } : MethodName)) ∈ pmWs := pmWs_2 (List.mem_of_getElem? (i := 45) rfl) rfl
theorem w_286 : (Jvm.Cond.methodLink "HotEditionsLaw" (22 : Nat) ({ cls := "HotEditions", name := "set", desc := "(II)Z" } : MethodName)) ∈ pmWs := pmWs_2 (List.mem_of_getElem? (i := 46) rfl) rfl
theorem w_287 : (Jvm.Cond.instanceMethod ({ cls := "HotEditions", name := "set", desc := "(II)Z" } : MethodName)) ∈ pmWs := pmWs_2 (List.mem_of_getElem? (i := 47) rfl) rfl
theorem w_288 : (Jvm.Cond.selects "HotEditions" ({ cls := "HotEditions", name := "set", desc := "(II)Z" } : MethodName) ({ cls := "HotEditions", name := "set", desc := "(II)Z" } : MethodName)) ∈ pmWs := pmWs_2 (List.mem_of_getElem? (i := 48) rfl) rfl
theorem w_289 : (Jvm.Cond.code ({ cls := "HotEditions", name := "set", desc := "(II)Z" } : MethodName) prog_1_method_4_code (3 : Nat) (Option.some FieldType.boolean)) ∈ pmWs := pmWs_2 (List.mem_of_getElem? (i := 49) rfl) rfl
theorem w_290 : (Jvm.Cond.methodLink "HotEditionsLaw" (27 : Nat) ({ cls := "HotEditions", name := "implement", desc := "(I)Z" } : MethodName)) ∈ pmWs := pmWs_2 (List.mem_of_getElem? (i := 50) rfl) rfl
theorem w_291 : (Jvm.Cond.instanceMethod ({ cls := "HotEditions", name := "implement", desc := "(I)Z" } : MethodName)) ∈ pmWs := pmWs_2 (List.mem_of_getElem? (i := 51) rfl) rfl
theorem w_292 : (Jvm.Cond.selects "HotEditions" ({ cls := "HotEditions", name := "implement", desc := "(I)Z" } : MethodName) ({ cls := "HotEditions", name := "implement", desc := "(I)Z" } : MethodName)) ∈ pmWs := pmWs_2 (List.mem_of_getElem? (i := 52) rfl) rfl
theorem w_293 : (Jvm.Cond.code ({ cls := "HotEditions", name := "implement", desc := "(I)Z" } : MethodName) prog_1_method_5_code (2 : Nat) (Option.some FieldType.boolean)) ∈ pmWs := pmWs_2 (List.mem_of_getElem? (i := 53) rfl) rfl
theorem w_294 : (Jvm.Cond.methodLink "HotEditions" (75 : Nat) ({ cls := "HotEditions$Definition", name := "addInterface", desc := "(I)Z" } : MethodName)) ∈ pmWs := pmWs_2 (List.mem_of_getElem? (i := 54) rfl) rfl
theorem w_295 : (Jvm.Cond.instanceMethod ({ cls := "HotEditions$Definition", name := "addInterface", desc := "(I)Z" } : MethodName)) ∈ pmWs := pmWs_2 (List.mem_of_getElem? (i := 55) rfl) rfl
theorem w_296 : (Jvm.Cond.selects "HotEditions$Definition" ({ cls := "HotEditions$Definition", name := "addInterface", desc := "(I)Z" } : MethodName) ({ cls := "HotEditions$Definition", name := "addInterface", desc := "(I)Z" } : MethodName)) ∈ pmWs := pmWs_2 (List.mem_of_getElem? (i := 56) rfl) rfl
theorem w_297 : (Jvm.Cond.code ({ cls := "HotEditions$Definition", name := "addInterface", desc := "(I)Z" } : MethodName) prog_5_method_4_code (2 : Nat) (Option.some FieldType.boolean)) ∈ pmWs := pmWs_2 (List.mem_of_getElem? (i := 57) rfl) rfl
theorem w_298 : (Jvm.Cond.methodLink "HotEditionsLaw" (31 : Nat) ({ cls := "HotEditions", name := "field", desc := "(III)Z" } : MethodName)) ∈ pmWs := pmWs_2 (List.mem_of_getElem? (i := 58) rfl) rfl
theorem w_299 : (Jvm.Cond.instanceMethod ({ cls := "HotEditions", name := "field", desc := "(III)Z" } : MethodName)) ∈ pmWs := pmWs_2 (List.mem_of_getElem? (i := 59) rfl) rfl
theorem w_300 : (Jvm.Cond.selects "HotEditions" ({ cls := "HotEditions", name := "field", desc := "(III)Z" } : MethodName) ({ cls := "HotEditions", name := "field", desc := "(III)Z" } : MethodName)) ∈ pmWs := pmWs_2 (List.mem_of_getElem? (i := 60) rfl) rfl
theorem w_301 : (Jvm.Cond.code ({ cls := "HotEditions", name := "field", desc := "(III)Z" } : MethodName) prog_1_method_6_code (4 : Nat) (Option.some FieldType.boolean)) ∈ pmWs := pmWs_2 (List.mem_of_getElem? (i := 61) rfl) rfl
theorem w_302 : (Jvm.Cond.methodLink "HotEditions" (79 : Nat) ({ cls := "HotEditions$Definition", name := "addField", desc := "(III)Z" } : MethodName)) ∈ pmWs := pmWs_2 (List.mem_of_getElem? (i := 62) rfl) rfl
theorem w_303 : (Jvm.Cond.instanceMethod ({ cls := "HotEditions$Definition", name := "addField", desc := "(III)Z" } : MethodName)) ∈ pmWs := pmWs_2 (List.mem_of_getElem? (i := 63) rfl) rfl
theorem w_304 : (Jvm.Cond.selects "HotEditions$Definition" ({ cls := "HotEditions$Definition", name := "addField", desc := "(III)Z" } : MethodName) ({ cls := "HotEditions$Definition", name := "addField", desc := "(III)Z" } : MethodName)) ∈ pmWs := pmWs_2 (List.mem_of_getElem? (i := 64) rfl) rfl
theorem w_305 : (Jvm.Cond.code ({ cls := "HotEditions$Definition", name := "addField", desc := "(III)Z" } : MethodName) prog_5_method_5_code (4 : Nat) (Option.some FieldType.boolean)) ∈ pmWs := pmWs_2 (List.mem_of_getElem? (i := 65) rfl) rfl
theorem w_306 : (Jvm.Cond.methodLink "HotEditionsLaw" (36 : Nat) ({ cls := "HotEditions", name := "method", desc := "(II)Z" } : MethodName)) ∈ pmWs := pmWs_2 (List.mem_of_getElem? (i := 66) rfl) rfl
theorem w_307 : (Jvm.Cond.instanceMethod ({ cls := "HotEditions", name := "method", desc := "(II)Z" } : MethodName)) ∈ pmWs := pmWs_2 (List.mem_of_getElem? (i := 67) rfl) rfl
theorem w_308 : (Jvm.Cond.selects "HotEditions" ({ cls := "HotEditions", name := "method", desc := "(II)Z" } : MethodName) ({ cls := "HotEditions", name := "method", desc := "(II)Z" } : MethodName)) ∈ pmWs := pmWs_2 (List.mem_of_getElem? (i := 68) rfl) rfl
theorem w_309 : (Jvm.Cond.code ({ cls := "HotEditions", name := "method", desc := "(II)Z" } : MethodName) prog_1_method_7_code (3 : Nat) (Option.some FieldType.boolean)) ∈ pmWs := pmWs_2 (List.mem_of_getElem? (i := 69) rfl) rfl
theorem w_310 : (Jvm.Cond.methodLink "HotEditions" (83 : Nat) ({ cls := "HotEditions$Definition", name := "addMethod", desc := "(II)Z" } : MethodName)) ∈ pmWs := pmWs_2 (List.mem_of_getElem? (i := 70) rfl) rfl
theorem w_311 : (Jvm.Cond.instanceMethod ({ cls := "HotEditions$Definition", name := "addMethod", desc := "(II)Z" } : MethodName)) ∈ pmWs := pmWs_2 (List.mem_of_getElem? (i := 71) rfl) rfl
theorem w_312 : (Jvm.Cond.selects "HotEditions$Definition" ({ cls := "HotEditions$Definition", name := "addMethod", desc := "(II)Z" } : MethodName) ({ cls := "HotEditions$Definition", name := "addMethod", desc := "(II)Z" } : MethodName)) ∈ pmWs := pmWs_2 (List.mem_of_getElem? (i := 72) rfl) rfl
theorem w_313 : (Jvm.Cond.code ({ cls := "HotEditions$Definition", name := "addMethod", desc := "(II)Z" } : MethodName) prog_5_method_6_code (4 : Nat) (Option.some FieldType.boolean)) ∈ pmWs := pmWs_2 (List.mem_of_getElem? (i := 73) rfl) rfl
theorem w_314 : (Jvm.Cond.methodLink "HotEditions$Definition" (61 : Nat) ({ cls := "HotEditions$Code", name := "clear", desc := "()V" } : MethodName)) ∈ pmWs := pmWs_2 (List.mem_of_getElem? (i := 74) rfl) rfl
theorem w_315 : (Jvm.Cond.instanceMethod ({ cls := "HotEditions$Code", name := "clear", desc := "()V" } : MethodName)) ∈ pmWs := pmWs_2 (List.mem_of_getElem? (i := 75) rfl) rfl
theorem w_316 : (Jvm.Cond.selects "HotEditions$Code" ({ cls := "HotEditions$Code", name := "clear", desc := "()V" } : MethodName) ({ cls := "HotEditions$Code", name := "clear", desc := "()V" } : MethodName)) ∈ pmWs := pmWs_2 (List.mem_of_getElem? (i := 76) rfl) rfl
theorem w_317 : (Jvm.Cond.code ({ cls := "HotEditions$Code", name := "clear", desc := "()V" } : MethodName) prog_4_method_2_code (1 : Nat) (Option.none : Option FieldType)) ∈ pmWs := pmWs_2 (List.mem_of_getElem? (i := 77) rfl) rfl
theorem w_318 : (Jvm.Cond.methodLink "HotEditionsLaw" (40 : Nat) ({ cls := "HotEditions", name := "choose", desc := "(I)Z" } : MethodName)) ∈ pmWs := pmWs_2 (List.mem_of_getElem? (i := 78) rfl) rfl
theorem w_319 : (Jvm.Cond.instanceMethod ({ cls := "HotEditions", name := "choose", desc := "(I)Z" } : MethodName)) ∈ pmWs := pmWs_2 (List.mem_of_getElem? (i := 79) rfl) rfl
theorem w_320 : (Jvm.Cond.selects "HotEditions" ({ cls := "HotEditions", name := "choose", desc := "(I)Z" } : MethodName) ({ cls := "HotEditions", name := "choose", desc := "(I)Z" } : MethodName)) ∈ pmWs := pmWs_2 (List.mem_of_getElem? (i := 80) rfl) rfl
theorem w_321 : (Jvm.Cond.code ({ cls := "HotEditions", name := "choose", desc := "(I)Z" } : MethodName) prog_1_method_8_code (2 : Nat) (Option.some FieldType.boolean)) ∈ pmWs := pmWs_2 (List.mem_of_getElem? (i := 81) rfl) rfl
theorem w_322 : (Jvm.Cond.methodLink "HotEditions" (100 : Nat) ({ cls := "HotEditions$Code", name := "clear", desc := "()V" } : MethodName)) ∈ pmWs := pmWs_2 (List.mem_of_getElem? (i := 82) rfl) rfl
theorem w_323 : (Jvm.Cond.methodLink "HotEditionsLaw" (44 : Nat) ({ cls := "HotEditions", name := "code", desc := "(III)Z" } : MethodName)) ∈ pmWs := pmWs_2 (List.mem_of_getElem? (i := 83) rfl) rfl
theorem w_324 : (Jvm.Cond.instanceMethod ({ cls := "HotEditions", name := "code", desc := "(III)Z" } : MethodName)) ∈ pmWs := pmWs_2 (List.mem_of_getElem? (i := 84) rfl) rfl
theorem w_325 : (Jvm.Cond.selects "HotEditions" ({ cls := "HotEditions", name := "code", desc := "(III)Z" } : MethodName) ({ cls := "HotEditions", name := "code", desc := "(III)Z" } : MethodName)) ∈ pmWs := pmWs_2 (List.mem_of_getElem? (i := 85) rfl) rfl
theorem w_326 : (Jvm.Cond.code ({ cls := "HotEditions", name := "code", desc := "(III)Z" } : MethodName) prog_1_method_9_code (4 : Nat) (Option.some FieldType.boolean)) ∈ pmWs := pmWs_2 (List.mem_of_getElem? (i := 86) rfl) rfl
theorem w_327 : (Jvm.Cond.methodLink "HotEditions" (103 : Nat) ({ cls := "HotEditions$Code", name := "add", desc := "(III)Z" } : MethodName)) ∈ pmWs := pmWs_2 (List.mem_of_getElem? (i := 87) rfl) rfl
theorem w_328 : (Jvm.Cond.instanceMethod ({ cls := "HotEditions$Code", name := "add", desc := "(III)Z" } : MethodName)) ∈ pmWs := pmWs_2 (List.mem_of_getElem? (i := 88) rfl) rfl
theorem w_329 : (Jvm.Cond.selects "HotEditions$Code" ({ cls := "HotEditions$Code", name := "add", desc := "(III)Z" } : MethodName) ({ cls := "HotEditions$Code", name := "add", desc := "(III)Z" } : MethodName)) ∈ pmWs := pmWs_2 (List.mem_of_getElem? (i := 89) rfl) rfl
theorem w_330 : (Jvm.Cond.code ({ cls := "HotEditions$Code", name := "add", desc := "(III)Z" } : MethodName) prog_4_method_4_code (4 : Nat) (Option.some FieldType.boolean)) ∈ pmWs := pmWs_2 (List.mem_of_getElem? (i := 90) rfl) rfl
theorem w_331 : (Jvm.Cond.methodLink "HotEditionsLaw" (48 : Nat) ({ cls := "HotEditions", name := "load", desc := "()I" } : MethodName)) ∈ pmWs := pmWs_2 (List.mem_of_getElem? (i := 91) rfl) rfl
theorem w_332 : (Jvm.Cond.instanceMethod ({ cls := "HotEditions", name := "load", desc := "()I" } : MethodName)) ∈ pmWs := pmWs_2 (List.mem_of_getElem? (i := 92) rfl) rfl
theorem w_333 : (Jvm.Cond.selects "HotEditions" ({ cls := "HotEditions", name := "load", desc := "()I" } : MethodName) ({ cls := "HotEditions", name := "load", desc := "()I" } : MethodName)) ∈ pmWs := pmWs_2 (List.mem_of_getElem? (i := 93) rfl) rfl
theorem w_334 : (Jvm.Cond.code ({ cls := "HotEditions", name := "load", desc := "()I" } : MethodName) prog_1_method_10_code (3 : Nat) (Option.some FieldType.int)) ∈ pmWs := pmWs_2 (List.mem_of_getElem? (i := 94) rfl) rfl
theorem w_335 : (Jvm.Cond.methodLink "HotEditions" (106 : Nat) ({ cls := "HotEditions$Trial", name := "take", desc := "(LHotEditions$Definition;I)V" } : MethodName)) ∈ pmWs := pmWs_2 (List.mem_of_getElem? (i := 95) rfl) rfl
theorem w_336 : (Jvm.Cond.instanceMethod ({ cls := "HotEditions$Trial", name := "take", desc := "(LHotEditions$Definition;I)V" } : MethodName)) ∈ pmWs := pmWs_2 (List.mem_of_getElem? (i := 96) rfl) rfl
theorem w_337 : (Jvm.Cond.selects "HotEditions$Trial" ({ cls := "HotEditions$Trial", name := "take", desc := "(LHotEditions$Definition;I)V" } : MethodName) ({ cls := "HotEditions$Trial", name := "take", desc := "(LHotEditions$Definition;I)V" } : MethodName)) ∈ pmWs := pmWs_2 (List.mem_of_getElem? (i := 97) rfl) rfl
theorem w_338 : (Jvm.Cond.code ({ cls := "HotEditions$Trial", name := "take", desc := "(LHotEditions$Definition;I)V" } : MethodName) prog_12_method_2_code (3 : Nat) (Option.none : Option FieldType)) ∈ pmWs := pmWs_2 (List.mem_of_getElem? (i := 98) rfl) rfl
theorem w_339 : (Jvm.Cond.methodLink "HotEditions$Trial" (25 : Nat) ({ cls := "HotEditions$Definition", name := "become", desc := "(LHotEditions$Definition;)V" } : MethodName)) ∈ pmWs := pmWs_2 (List.mem_of_getElem? (i := 99) rfl) rfl
theorem w_340 : (Jvm.Cond.methodLink "HotEditions" (110 : Nat) ({ cls := "HotEditions$Chain", name := "treat", desc := "(LHotEditions$Trial;)V" } : MethodName)) ∈ pmWs := pmWs_2 (List.mem_of_getElem? (i := 100) rfl) rfl
theorem w_341 : (Jvm.Cond.instanceMethod ({ cls := "HotEditions$Chain", name := "treat", desc := "(LHotEditions$Trial;)V" } : MethodName)) ∈ pmWs := pmWs_2 (List.mem_of_getElem? (i := 101) rfl) rfl
theorem w_342 : (Jvm.Cond.selects "HotEditions$Chain" ({ cls := "HotEditions$Chain", name := "treat", desc := "(LHotEditions$Trial;)V" } : MethodName) ({ cls := "HotEditions$Chain", name := "treat", desc := "(LHotEditions$Trial;)V" } : MethodName)) ∈ pmWs := pmWs_2 (List.mem_of_getElem? (i := 102) rfl) rfl
theorem w_343 : (Jvm.Cond.code ({ cls := "HotEditions$Chain", name := "treat", desc := "(LHotEditions$Trial;)V" } : MethodName) prog_3_method_4_code (2 : Nat) (Option.none : Option FieldType)) ∈ pmWs := pmWs_2 (List.mem_of_getElem? (i := 103) rfl) rfl
theorem w_344 : (Jvm.Cond.methodLink "HotEditions$Chain" (44 : Nat) ({ cls := "HotEditions$Chain", name := "change", desc := "(LHotEditions$Definition;IZ)V" } : MethodName)) ∈ pmWs := pmWs_2 (List.mem_of_getElem? (i := 104) rfl) rfl
theorem w_345 : (Jvm.Cond.instanceMethod ({ cls := "HotEditions$Chain", name := "change", desc := "(LHotEditions$Definition;IZ)V" } : MethodName)) ∈ pmWs := pmWs_2 (List.mem_of_getElem? (i := 105) rfl) rfl
theorem w_346 : (Jvm.Cond.selects "HotEditions$Chain" ({ cls := "HotEditions$Chain", name := "change", desc := "(LHotEditions$Definition;IZ)V" } : MethodName) ({ cls := "HotEditions$Chain", name := "change", desc := "(LHotEditions$Definition;IZ)V" } : MethodName)) ∈ pmWs := pmWs_2 (List.mem_of_getElem? (i := 106) rfl) rfl
theorem w_347 : (Jvm.Cond.code ({ cls := "HotEditions$Chain", name := "change", desc := "(LHotEditions$Definition;IZ)V" } : MethodName) prog_3_method_5_code (6 : Nat) (Option.none : Option FieldType)) ∈ pmWs := pmWs_2 (List.mem_of_getElem? (i := 107) rfl) rfl
theorem w_348 : (Jvm.Cond.methodLink "HotEditions$Chain" (57 : Nat) ({ cls := "HotEditions$Transformer", name := "isFor", desc := "(I)Z" } : MethodName)) ∈ pmWs := pmWs_2 (List.mem_of_getElem? (i := 108) rfl) rfl
theorem w_349 : (Jvm.Cond.instanceMethod ({ cls := "HotEditions$Transformer", name := "isFor", desc := "(I)Z" } : MethodName)) ∈ pmWs := pmWs_2 (List.mem_of_getElem? (i := 109) rfl) rfl
theorem w_350 : (Jvm.Cond.selects "HotEditions$Transformer" ({ cls := "HotEditions$Transformer", name := "isFor", desc := "(I)Z" } : MethodName) ({ cls := "HotEditions$Transformer", name := "isFor", desc := "(I)Z" } : MethodName)) ∈ pmWs := pmWs_2 (List.mem_of_getElem? (i := 110) rfl) rfl
theorem w_351 : (Jvm.Cond.code ({ cls := "HotEditions$Transformer", name := "isFor", desc := "(I)Z" } : MethodName) prog_11_method_2_code (2 : Nat) (Option.some FieldType.boolean)) ∈ pmWs := pmWs_2 (List.mem_of_getElem? (i := 111) rfl) rfl
theorem w_352 : (Jvm.Cond.methodLink "HotEditions$Chain" (61 : Nat) ({ cls := "HotEditions$Transformer", name := "change", desc := "(LHotEditions$Definition;)V" } : MethodName)) ∈ pmWs := pmWs_2 (List.mem_of_getElem? (i := 112) rfl) rfl
theorem w_353 : (Jvm.Cond.instanceMethod ({ cls := "HotEditions$Transformer", name := "change", desc := "(LHotEditions$Definition;)V" } : MethodName)) ∈ pmWs := pmWs_2 (List.mem_of_getElem? (i := 113) rfl) rfl
theorem w_354 : (Jvm.Cond.selects "HotEditions$Transformer" ({ cls := "HotEditions$Transformer", name := "change", desc := "(LHotEditions$Definition;)V" } : MethodName) ({ cls := "HotEditions$Transformer", name := "change", desc := "(LHotEditions$Definition;)V" } : MethodName)) ∈ pmWs := pmWs_2 (List.mem_of_getElem? (i := 114) rfl) rfl
theorem w_355 : (Jvm.Cond.code ({ cls := "HotEditions$Transformer", name := "change", desc := "(LHotEditions$Definition;)V" } : MethodName) prog_11_method_3_code (3 : Nat) (Option.none : Option FieldType)) ∈ pmWs := pmWs_2 (List.mem_of_getElem? (i := 115) rfl) rfl
theorem w_356 : (Jvm.Cond.methodLink "HotEditions$Transformer" (43 : Nat) ({ cls := "HotEditions$Code", name := "raiseAdditions", desc := "(I)V" } : MethodName)) ∈ pmWs := pmWs_2 (List.mem_of_getElem? (i := 116) rfl) rfl
theorem w_357 : (Jvm.Cond.instanceMethod ({ cls := "HotEditions$Code", name := "raiseAdditions", desc := "(I)V" } : MethodName)) ∈ pmWs := pmWs_2 (List.mem_of_getElem? (i := 117) rfl) rfl
theorem w_358 : (Jvm.Cond.selects "HotEditions$Code" ({ cls := "HotEditions$Code", name := "raiseAdditions", desc := "(I)V" } : MethodName) ({ cls := "HotEditions$Code", name := "raiseAdditions", desc := "(I)V" } : MethodName)) ∈ pmWs := pmWs_2 (List.mem_of_getElem? (i := 118) rfl) rfl
theorem w_359 : (Jvm.Cond.code ({ cls := "HotEditions$Code", name := "raiseAdditions", desc := "(I)V" } : MethodName) prog_4_method_8_code (3 : Nat) (Option.none : Option FieldType)) ∈ pmWs := pmWs_2 (List.mem_of_getElem? (i := 119) rfl) rfl
theorem w_360 : (Jvm.Cond.methodLink "HotEditions$Code" (25 : Nat) ({ cls := "HotEditions$Code", name := "opAt", desc := "(I)I" } : MethodName)) ∈ pmWs := pmWs_2 (List.mem_of_getElem? (i := 120) rfl) rfl
theorem w_361 : (Jvm.Cond.instanceMethod ({ cls := "HotEditions$Code", name := "opAt", desc := "(I)I" } : MethodName)) ∈ pmWs := pmWs_2 (List.mem_of_getElem? (i := 121) rfl) rfl
theorem w_362 : (Jvm.Cond.selects "HotEditions$Code" ({ cls := "HotEditions$Code", name := "opAt", desc := "(I)I" } : MethodName) ({ cls := "HotEditions$Code", name := "opAt", desc := "(I)I" } : MethodName)) ∈ pmWs := pmWs_2 (List.mem_of_getElem? (i := 122) rfl) rfl
theorem w_363 : (Jvm.Cond.code ({ cls := "HotEditions$Code", name := "opAt", desc := "(I)I" } : MethodName) prog_4_method_5_code (2 : Nat) (Option.some FieldType.int)) ∈ pmWs := pmWs_2 (List.mem_of_getElem? (i := 123) rfl) rfl
theorem w_364 : (Jvm.Cond.methodLink "HotEditions$Transformer" (53 : Nat) ({ cls := "HotEditions$Definition", name := "findMethod", desc := "(I)LHotEditions$Method;" } : MethodName)) ∈ pmWs := pmWs_2 (List.mem_of_getElem? (i := 124) rfl) rfl
theorem w_365 : (Jvm.Cond.instanceMethod ({ cls := "HotEditions$Definition", name := "findMethod", desc := "(I)LHotEditions$Method;" } : MethodName)) ∈ pmWs := pmWs_2 (List.mem_of_getElem? (i := 125) rfl) rfl
theorem w_366 : (Jvm.Cond.selects "HotEditions$Definition" ({ cls := "HotEditions$Definition", name := "findMethod", desc := "(I)LHotEditions$Method;" } : MethodName) ({ cls := "HotEditions$Definition", name := "findMethod", desc := "(I)LHotEditions$Method;" } : MethodName)) ∈ pmWs := pmWs_2 (List.mem_of_getElem? (i := 126) rfl) rfl
theorem w_367 : (Jvm.Cond.code ({ cls := "HotEditions$Definition", name := "findMethod", desc := "(I)LHotEditions$Method;" } : MethodName) prog_5_method_7_code (3 : Nat) (Option.some (FieldType.object "HotEditions$Method"))) ∈ pmWs := pmWs_2 (List.mem_of_getElem? (i := 127) rfl) rfl
theorem w_368 : (Jvm.Cond.methodLink "HotEditions$Transformer" (57 : Nat) ({ cls := "HotEditions$Transformer", name := "emptyAllCode", desc := "(LHotEditions$Definition;)V" } : MethodName)) ∈ pmWs := pmWs_2 (List.mem_of_getElem? (i := 128) rfl) rfl
theorem w_369 : (Jvm.Cond.static ({ cls := "HotEditions$Transformer", name := "emptyAllCode", desc := "(LHotEditions$Definition;)V" } : MethodName)) ∈ pmWs := pmWs_2 (List.mem_of_getElem? (i := 129) rfl) rfl
theorem w_370 : (Jvm.Cond.code ({ cls := "HotEditions$Transformer", name := "emptyAllCode", desc := "(LHotEditions$Definition;)V" } : MethodName) prog_11_method_4_code (2 : Nat) (Option.none : Option FieldType)) ∈ pmWs := pmWs_2 (List.mem_of_getElem? (i := 130) rfl) rfl
theorem w_371 : (Jvm.Cond.methodLink "HotEditions$Transformer" (64 : Nat) ({ cls := "HotEditions$Code", name := "clear", desc := "()V" } : MethodName)) ∈ pmWs := pmWs_2 (List.mem_of_getElem? (i := 131) rfl) rfl
theorem w_372 : (Jvm.Cond.methodLink "HotEditions$Chain" (51 : Nat) ({ cls := "HotEditions$Definition", name := "become", desc := "(LHotEditions$Definition;)V" } : MethodName)) ∈ pmWs := pmWs_2 (List.mem_of_getElem? (i := 132) rfl) rfl
theorem w_373 : (Jvm.Cond.methodLink "HotEditions" (117 : Nat) ({ cls := "HotEditions$Rules", name := "firstBrokenAlone", desc := "(LHotEditions$Definition;LHotEditions$Shelf;)I" } : MethodName)) ∈ pmWs := pmWs_2 (List.mem_of_getElem? (i := 133) rfl) rfl
theorem w_374 : (Jvm.Cond.static ({ cls := "HotEditions$Rules", name := "firstBrokenAlone", desc := "(LHotEditions$Definition;LHotEditions$Shelf;)I" } : MethodName)) ∈ pmWs := pmWs_2 (List.mem_of_getElem? (i := 134) rfl) rfl
theorem w_375 : (Jvm.Cond.code ({ cls := "HotEditions$Rules", name := "firstBrokenAlone", desc := "(LHotEditions$Definition;LHotEditions$Shelf;)I" } : MethodName) prog_9_method_3_code (2 : Nat) (Option.some FieldType.int)) ∈ pmWs := pmWs_2 (List.mem_of_getElem? (i := 135) rfl) rfl
theorem w_376 : (Jvm.Cond.methodLink "HotEditions$Rules" (25 : Nat) ({ cls := "HotEditions$Definition", name := "hasEqualInterfaces", desc := "()Z" } : MethodName)) ∈ pmWs := pmWs_2 (List.mem_of_getElem? (i := 136) rfl) rfl
theorem w_377 : (Jvm.Cond.instanceMethod ({ cls := "HotEditions$Definition", name := "hasEqualInterfaces", desc := "()Z" } : MethodName)) ∈ pmWs := pmWs_2 (List.mem_of_getElem? (i := 137) rfl) rfl
theorem w_378 : (Jvm.Cond.selects "HotEditions$Definition" ({ cls := "HotEditions$Definition", name := "hasEqualInterfaces", desc := "()Z" } : MethodName) ({ cls := "HotEditions$Definition", name := "hasEqualInterfaces", desc := "()Z" } : MethodName)) ∈ pmWs := pmWs_2 (List.mem_of_getElem? (i := 138) rfl) rfl
theorem w_379 : (Jvm.Cond.code ({ cls := "HotEditions$Definition", name := "hasEqualInterfaces", desc := "()Z" } : MethodName) prog_5_method_9_code (3 : Nat) (Option.some FieldType.boolean)) ∈ pmWs := pmWs_2 (List.mem_of_getElem? (i := 139) rfl) rfl
theorem w_380 : (Jvm.Cond.methodLink "HotEditions$Rules" (29 : Nat) ({ cls := "HotEditions$Definition", name := "hasFieldsOfOneName", desc := "()Z" } : MethodName)) ∈ pmWs := pmWs_2 (List.mem_of_getElem? (i := 140) rfl) rfl
theorem w_381 : (Jvm.Cond.instanceMethod ({ cls := "HotEditions$Definition", name := "hasFieldsOfOneName", desc := "()Z" } : MethodName)) ∈ pmWs := pmWs_2 (List.mem_of_getElem? (i := 141) rfl) rfl
theorem w_382 : (Jvm.Cond.selects "HotEditions$Definition" ({ cls := "HotEditions$Definition", name := "hasFieldsOfOneName", desc := "()Z" } : MethodName) ({ cls := "HotEditions$Definition", name := "hasFieldsOfOneName", desc := "()Z" } : MethodName)) ∈ pmWs := pmWs_2 (List.mem_of_getElem? (i := 142) rfl) rfl
theorem w_383 : (Jvm.Cond.code ({ cls := "HotEditions$Definition", name := "hasFieldsOfOneName", desc := "()Z" } : MethodName) prog_5_method_10_code (3 : Nat) (Option.some FieldType.boolean)) ∈ pmWs := pmWs_2 (List.mem_of_getElem? (i := 143) rfl) rfl
theorem w_384 : (Jvm.Cond.methodLink "HotEditions$Rules" (32 : Nat) ({ cls := "HotEditions$Definition", name := "hasMethodsOfOneName", desc := "()Z" } : MethodName)) ∈ pmWs := pmWs_2 (List.mem_of_getElem? (i := 144) rfl) rfl
theorem w_385 : (Jvm.Cond.instanceMethod ({ cls := "HotEditions$Definition", name := "hasMethodsOfOneName", desc := "()Z" } : MethodName)) ∈ pmWs := pmWs_2 (List.mem_of_getElem? (i := 145) rfl) rfl
theorem w_386 : (Jvm.Cond.selects "HotEditions$Definition" ({ cls := "HotEditions$Definition", name := "hasMethodsOfOneName", desc := "()Z" } : MethodName) ({ cls := "HotEditions$Definition", name := "hasMethodsOfOneName", desc := "()Z" } : MethodName)) ∈ pmWs := pmWs_2 (List.mem_of_getElem? (i := 146) rfl) rfl
theorem w_387 : (Jvm.Cond.code ({ cls := "HotEditions$Definition", name := "hasMethodsOfOneName", desc := "()Z" } : MethodName) prog_5_method_11_code (3 : Nat) (Option.some FieldType.boolean)) ∈ pmWs := pmWs_2 (List.mem_of_getElem? (i := 147) rfl) rfl
theorem w_388 : (Jvm.Cond.methodLink "HotEditions$Rules" (35 : Nat) ({ cls := "HotEditions$Rules", name := "hasUnknownOp", desc := "(LHotEditions$Definition;)Z" } : MethodName)) ∈ pmWs := pmWs_2 (List.mem_of_getElem? (i := 148) rfl) rfl
theorem w_389 : (Jvm.Cond.static ({ cls := "HotEditions$Rules", name := "hasUnknownOp", desc := "(LHotEditions$Definition;)Z" } : MethodName)) ∈ pmWs := pmWs_2 (List.mem_of_getElem? (i := 149) rfl) rfl
theorem w_390 : (Jvm.Cond.code ({ cls := "HotEditions$Rules", name := "hasUnknownOp", desc := "(LHotEditions$Definition;)Z" } : MethodName) prog_9_method_5_code (4 : Nat) (Option.some FieldType.boolean)) ∈ pmWs := pmWs_2 (List.mem_of_getElem? (i := 150) rfl) rfl
theorem w_391 : (Jvm.Cond.methodLink "HotEditions$Rules" (80 : Nat) ({ cls := "HotEditions$Code", name := "opAt", desc := "(I)I" } : MethodName)) ∈ pmWs := pmWs_2 (List.mem_of_getElem? (i := 151) rfl) rfl
theorem w_392 : (Jvm.Cond.methodLink "HotEditions$Rules" (39 : Nat) ({ cls := "HotEditions$Rules", name := "meetsItselfAbove", desc := "(LHotEditions$Definition;LHotEditions$Shelf;)Z" } : MethodName)) ∈ pmWs := pmWs_2 (List.mem_of_getElem? (i := 152) rfl) rfl
theorem w_393 : (Jvm.Cond.static ({ cls := "HotEditions$Rules", name := "meetsItselfAbove", desc := "(LHotEditions$Definition;LHotEditions$Shelf;)Z" } : MethodName)) ∈ pmWs := pmWs_2 (List.mem_of_getElem? (i := 153) rfl) rfl
theorem w_394 : (Jvm.Cond.code ({ cls := "HotEditions$Rules", name := "meetsItselfAbove", desc := "(LHotEditions$Definition;LHotEditions$Shelf;)Z" } : MethodName) prog_9_method_6_code (5 : Nat) (Option.some FieldType.boolean)) ∈ pmWs := pmWs_2 (List.mem_of_getElem? (i := 154) rfl) rfl
theorem w_395 : (Jvm.Cond.methodLink "HotEditions$Rules" (84 : Nat) ({ cls := "HotEditions$Shelf", name := "find", desc := "(I)LHotEditions$LoadedClass;" } : MethodName)) ∈ pmWs := pmWs_2 (List.mem_of_getElem? (i := 155) rfl) rfl
theorem w_396 : (Jvm.Cond.methodLink "HotEditions$Rules" (43 : Nat) ({ cls := "HotEditions$Rules", name := "lacksSuper", desc := "(LHotEditions$Definition;LHotEditions$Shelf;)Z" } : MethodName)) ∈ pmWs := pmWs_2 (List.mem_of_getElem? (i := 156) rfl) rfl
theorem w_397 : (Jvm.Cond.static ({ cls := "HotEditions$Rules", name := "lacksSuper", desc := "(LHotEditions$Definition;LHotEditions$Shelf;)Z" } : MethodName)) ∈ pmWs := pmWs_2 (List.mem_of_getElem? (i := 157) rfl) rfl
theorem w_398 : (Jvm.Cond.code ({ cls := "HotEditions$Rules", name := "lacksSuper", desc := "(LHotEditions$Definition;LHotEditions$Shelf;)Z" } : MethodName) prog_9_method_7_code (2 : Nat) (Option.some FieldType.boolean)) ∈ pmWs := pmWs_2 (List.mem_of_getElem? (i := 158) rfl) rfl
theorem w_399 : (Jvm.Cond.methodLink "HotEditions$Rules" (46 : Nat) ({ cls := "HotEditions$Rules", name := "lacksCalledMethod", desc := "(LHotEditions$Definition;LHotEditions$Shelf;)Z" } : MethodName)) ∈ pmWs := pmWs_2 (List.mem_of_getElem? (i := 159) rfl) rfl
theorem w_400 : (Jvm.Cond.static ({ cls := "HotEditions$Rules", name := "lacksCalledMethod", desc := "(LHotEditions$Definition;LHotEditions$Shelf;)Z" } : MethodName)) ∈ pmWs := pmWs_2 (List.mem_of_getElem? (i := 160) rfl) rfl
theorem w_401 : (Jvm.Cond.code ({ cls := "HotEditions$Rules", name := "lacksCalledMethod", desc := "(LHotEditions$Definition;LHotEditions$Shelf;)Z" } : MethodName) prog_9_method_8_code (5 : Nat) (Option.some FieldType.boolean)) ∈ pmWs := pmWs_2 (List.mem_of_getElem? (i := 161) rfl) rfl
theorem w_402 : (Jvm.Cond.methodLink "HotEditions$Rules" (96 : Nat) ({ cls := "HotEditions$Code", name := "firstOperandAt", desc := "(I)I" } : MethodName)) ∈ pmWs := pmWs_2 (List.mem_of_getElem? (i := 162) rfl) rfl
theorem w_403 : (Jvm.Cond.instanceMethod ({ cls := "HotEditions$Code", name := "firstOperandAt", desc := "(I)I" } : MethodName)) ∈ pmWs := pmWs_2 (List.mem_of_getElem? (i := 163) rfl) rfl
theorem w_404 : (Jvm.Cond.selects "HotEditions$Code" ({ cls := "HotEditions$Code", name := "firstOperandAt", desc := "(I)I" } : MethodName) ({ cls := "HotEditions$Code", name := "firstOperandAt", desc := "(I)I" } : MethodName)) ∈ pmWs := pmWs_2 (List.mem_of_getElem? (i := 164) rfl) rfl
theorem w_405 : (Jvm.Cond.code ({ cls := "HotEditions$Code", name := "firstOperandAt", desc := "(I)I" } : MethodName) prog_4_method_6_code (2 : Nat) (Option.some FieldType.int)) ∈ pmWs := pmWs_2 (List.mem_of_getElem? (i := 165) rfl) rfl
theorem w_406 : (Jvm.Cond.methodLink "HotEditions$Rules" (99 : Nat) ({ cls := "HotEditions$Code", name := "secondOperandAt", desc := "(I)I" } : MethodName)) ∈ pmWs := pmWs_2 (List.mem_of_getElem? (i := 166) rfl) rfl
theorem w_407 : (Jvm.Cond.instanceMethod ({ cls := "HotEditions$Code", name := "secondOperandAt", desc := "(I)I" } : MethodName)) ∈ pmWs := pmWs_2 (List.mem_of_getElem? (i := 167) rfl) rfl
theorem w_408 : (Jvm.Cond.selects "HotEditions$Code" ({ cls := "HotEditions$Code", name := "secondOperandAt", desc := "(I)I" } : MethodName) ({ cls := "HotEditions$Code", name := "secondOperandAt", desc := "(I)I" } : MethodName)) ∈ pmWs := pmWs_2 (List.mem_of_getElem? (i := 168) rfl) rfl
theorem w_409 : (Jvm.Cond.code ({ cls := "HotEditions$Code", name := "secondOperandAt", desc := "(I)I" } : MethodName) prog_4_method_7_code (2 : Nat) (Option.some FieldType.int)) ∈ pmWs := pmWs_2 (List.mem_of_getElem? (i := 169) rfl) rfl
theorem w_410 : (Jvm.Cond.methodLink "HotEditions$Rules" (102 : Nat) ({ cls := "HotEditions$Rules", name := "isCallable", desc := "(LHotEditions$Definition;IILHotEditions$Shelf;)Z" } : MethodName)) ∈ pmWs := pmWs_2 (List.mem_of_getElem? (i := 170) rfl) rfl
theorem w_411 : (Jvm.Cond.static ({ cls := "HotEditions$Rules", name := "isCallable", desc := "(LHotEditions$Definition;IILHotEditions$Shelf;)Z" } : MethodName)) ∈ pmWs := pmWs_2 (List.mem_of_getElem? (i := 171) rfl) rfl
theorem w_412 : (Jvm.Cond.code ({ cls := "HotEditions$Rules", name := "isCallable", desc := "(LHotEditions$Definition;IILHotEditions$Shelf;)Z" } : MethodName) prog_9_method_9_code (5 : Nat) (Option.some FieldType.boolean)) ∈ pmWs := pmWs_2 (List.mem_of_getElem? (i := 172) rfl) rfl
theorem w_413 : (Jvm.Cond.methodLink "HotEditions$Rules" (106 : Nat) ({ cls := "HotEditions$Definition", name := "findMethod", desc := "(I)LHotEditions$Method;" } : MethodName)) ∈ pmWs := pmWs_2 (List.mem_of_getElem? (i := 173) rfl) rfl
theorem w_414 : (Jvm.Cond.methodLink "HotEditions" (123 : Nat) ({ cls := "HotEditions", name := "isClass", desc := "(I)Z" } : MethodName)) ∈ pmWs := pmWs_2 (List.mem_of_getElem? (i := 174) rfl) rfl
theorem w_415 : (Jvm.Cond.static ({ cls := "HotEditions", name := "isClass", desc := "(I)Z" } : MethodName)) ∈ pmWs := pmWs_2 (List.mem_of_getElem? (i := 175) rfl) rfl
theorem w_416 : (Jvm.Cond.code ({ cls := "HotEditions", name := "isClass", desc := "(I)Z" } : MethodName) prog_1_method_22_code (1 : Nat) (Option.some FieldType.boolean)) ∈ pmWs := pmWs_2 (List.mem_of_getElem? (i := 176) rfl) rfl
theorem w_417 : (Jvm.Cond.methodLink "HotEditions" (126 : Nat) ({ cls := "HotEditions$Shelf", name := "add", desc := "(ILHotEditions$Trial;)V" } : MethodName)) ∈ pmWs := pmWs_2 (List.mem_of_getElem? (i := 177) rfl) rfl
theorem w_418 : (Jvm.Cond.instanceMethod ({ cls := "HotEditions$Shelf", name := "add", desc := "(ILHotEditions$Trial;)V" } : MethodName)) ∈ pmWs := pmWs_2 (List.mem_of_getElem? (i := 178) rfl) rfl
theorem w_419 : (Jvm.Cond.selects "HotEditions$Shelf" ({ cls := "HotEditions$Shelf", name := "add", desc := "(ILHotEditions$Trial;)V" } : MethodName) ({ cls := "HotEditions$Shelf", name := "add", desc := "(ILHotEditions$Trial;)V" } : MethodName)) ∈ pmWs := pmWs_2 (List.mem_of_getElem? (i := 179) rfl) rfl
theorem w_420 : (Jvm.Cond.code ({ cls := "HotEditions$Shelf", name := "add", desc := "(ILHotEditions$Trial;)V" } : MethodName) prog_10_method_3_code (4 : Nat) (Option.none : Option FieldType)) ∈ pmWs := pmWs_2 (List.mem_of_getElem? (i := 180) rfl) rfl
theorem w_421 : (Jvm.Cond.methodLinkNest "HotEditions$Shelf" (17 : Nat) ({ cls := "HotEditions", name := "isClass", desc := "(I)Z" } : MethodName) "HotEditions") ∈ pmWs := pmWs_2 (List.mem_of_getElem? (i := 181) rfl) rfl
theorem w_422 : (Jvm.Cond.instantiable "HotEditions$LoadedClass" (3 : Nat)) ∈ pmWs := pmWs_2 (List.mem_of_getElem? (i := 182) rfl) rfl
theorem w_423 : (Jvm.Cond.methodLinkNest "HotEditions$Shelf" (21 : Nat) ({ cls := "HotEditions$LoadedClass", name := "<init>", desc := "()V" } : MethodName) "HotEditions") ∈ pmWs := pmWs_2 (List.mem_of_getElem? (i := 183) rfl) rfl
theorem w_424 : (Jvm.Cond.instanceMethod ({ cls := "HotEditions$LoadedClass", name := "<init>", desc := "()V" } : MethodName)) ∈ pmWs := pmWs_2 (List.mem_of_getElem? (i := 184) rfl) rfl
theorem w_425 : (Jvm.Cond.code ({ cls := "HotEditions$LoadedClass", name := "<init>", desc := "()V" } : MethodName) prog_7_method_1_code (1 : Nat) (Option.none : Option FieldType)) ∈ pmWs := pmWs_2 (List.mem_of_getElem? (i := 185) rfl) rfl
theorem w_426 : (Jvm.Cond.methodLink "HotEditions$LoadedClass" (1 : Nat) ({ cls := "java/lang/Object", name := "<init>", desc := "()V" } : MethodName)) ∈ pmWs := pmWs_2 (List.mem_of_getElem? (i := 186) rfl) rfl
theorem w_427 : (Jvm.Cond.classLink "HotEditions$LoadedClass" (13 : Nat) "HotEditions$Definition") ∈ pmWs := pmWs_2 (List.mem_of_getElem? (i := 187) rfl) rfl
theorem w_428 : (Jvm.Cond.methodLink "HotEditions$LoadedClass" (15 : Nat) ({ cls := "HotEditions$Definition", name := "<init>", desc := "()V" } : MethodName)) ∈ pmWs := pmWs_2 (List.mem_of_getElem? (i := 188) rfl) rfl
theorem w_429 : (Jvm.Cond.fieldLink "HotEditions$LoadedClass" (7 : Nat) "HotEditions$LoadedClass" "edition" "I") ∈ pmWs := pmWs_2 (List.mem_of_getElem? (i := 189) rfl) rfl
theorem w_430 : (Jvm.Cond.fieldLinkNest "HotEditions$Calls" (43 : Nat) "HotEditions$LoadedClass" "edition" "I" "HotEditions") ∈ pmWs := pmWs_2 (List.mem_of_getElem? (i := 190) rfl) rfl
theorem w_431 : (Jvm.Cond.fieldLinkNest "HotEditions" (189 : Nat) "HotEditions$LoadedClass" "edition" "I" "HotEditions") ∈ pmWs := pmWs_2 (List.mem_of_getElem? (i := 191) rfl) rfl
theorem w_432 : (Jvm.Cond.fieldLink "HotEditions$LoadedClass" (16 : Nat) "HotEditions$LoadedClass" "current" "LHotEditions$Definition;") ∈ pmWs := pmWs_2 (List.mem_of_getElem? (i := 192) rfl) rfl
theorem w_433 : (Jvm.Cond.fieldLinkNest "HotEditions$Calls" (31 : Nat) "HotEditions$LoadedClass" "current" "LHotEditions$Definition;" "HotEditions") ∈ pmWs := pmWs_2 (List.mem_of_getElem? (i := 193) rfl) rfl
theorem w_434 : (Jvm.Cond.fieldLinkNest "HotEditions" (62 : Nat) "HotEditions$LoadedClass" "current" "LHotEditions$Definition;" "HotEditions") ∈ pmWs := pmWs_2 (List.mem_of_getElem? (i := 194) rfl) rfl
theorem w_435 : (Jvm.Cond.fieldLinkNest "HotEditions$Rules" (90 : Nat) "HotEditions$LoadedClass" "current" "LHotEditions$Definition;" "HotEditions") ∈ pmWs := pmWs_2 (List.mem_of_getElem? (i := 195) rfl) rfl
theorem w_436 : (Jvm.Cond.fieldLink "HotEditions$LoadedClass" (20 : Nat) "HotEditions$LoadedClass" "original" "LHotEditions$Definition;") ∈ pmWs := pmWs_2 (List.mem_of_getElem? (i := 196) rfl) rfl
theorem w_437 : (Jvm.Cond.fieldLinkNest "HotEditions$Shelf" (32 : Nat) "HotEditions$LoadedClass" "original" "LHotEditions$Definition;" "HotEditions") ∈ pmWs := pmWs_2 (List.mem_of_getElem? (i := 197) rfl) rfl
theorem w_438 : (Jvm.Cond.fieldLinkNest "HotEditions" (146 : Nat) "HotEditions$LoadedClass" "original" "LHotEditions$Definition;" "HotEditions") ∈ pmWs := pmWs_2 (List.mem_of_getElem? (i := 198) rfl) rfl
theorem w_439 : (Jvm.Cond.lays "HotEditions$LoadedClass" "HotEditions$LoadedClass" "edition" "I") ∈ pmWs := pmWs_2 (List.mem_of_getElem? (i := 199) rfl) rfl
theorem w_441 : (Jvm.Cond.laysFinal "HotEditions$LoadedClass" "HotEditions$LoadedClass" "current" "LHotEditions$Definition;") ∈ pmWs := pmWs_2 (List.mem_of_getElem? (i := 201) rfl) rfl
theorem w_443 : (Jvm.Cond.laysFinal "HotEditions$LoadedClass" "HotEditions$LoadedClass" "original" "LHotEditions$Definition;") ∈ pmWs := pmWs_2 (List.mem_of_getElem? (i := 203) rfl) rfl
theorem w_446 : (Jvm.Cond.methodLink "HotEditions$Shelf" (28 : Nat) ({ cls := "HotEditions$LoadedClass", name := "addEdition", desc := "(LHotEditions$Definition;)V" } : MethodName)) ∈ pmWs := pmWs_2 (List.mem_of_getElem? (i := 206) rfl) rfl
theorem w_447 : (Jvm.Cond.instanceMethod ({ cls := "HotEditions$LoadedClass", name := "addEdition", desc := "(LHotEditions$Definition;)V" } : MethodName)) ∈ pmWs := pmWs_2 (List.mem_of_getElem? (i := 207) rfl) rfl
theorem w_448 : (Jvm.Cond.selects "HotEditions$LoadedClass" ({ cls := "HotEditions$LoadedClass", name := "addEdition", desc := "(LHotEditions$Definition;)V" } : MethodName) ({ cls := "HotEditions$LoadedClass", name := "addEdition", desc := "(LHotEditions$Definition;)V" } : MethodName)) ∈ pmWs := pmWs_2 (List.mem_of_getElem? (i := 208) rfl) rfl
theorem w_449 : (Jvm.Cond.code ({ cls := "HotEditions$LoadedClass", name := "addEdition", desc := "(LHotEditions$Definition;)V" } : MethodName) prog_7_method_2_code (2 : Nat) (Option.none : Option FieldType)) ∈ pmWs := pmWs_2 (List.mem_of_getElem? (i := 209) rfl) rfl
theorem w_450 : (Jvm.Cond.methodLink "HotEditions$LoadedClass" (23 : Nat) ({ cls := "HotEditions$Definition", name := "become", desc := "(LHotEditions$Definition;)V" } : MethodName)) ∈ pmWs := pmWs_2 (List.mem_of_getElem? (i := 210) rfl) rfl
theorem w_451 : (Jvm.Cond.methodLink "HotEditions$Shelf" (36 : Nat) ({ cls := "HotEditions$Definition", name := "become", desc := "(LHotEditions$Definition;)V" } : MethodName)) ∈ pmWs := pmWs_2 (List.mem_of_getElem? (i := 211) rfl) rfl
theorem w_452 : (Jvm.Cond.methodLink "HotEditionsLaw" (53 : Nat) ({ cls := "HotEditions", name := "transformer", desc := "(IIIZ)I" } : MethodName)) ∈ pmWs := pmWs_2 (List.mem_of_getElem? (i := 212) rfl) rfl
theorem w_453 : (Jvm.Cond.instanceMethod ({ cls := "HotEditions", name := "transformer", desc := "(IIIZ)I" } : MethodName)) ∈ pmWs := pmWs_2 (List.mem_of_getElem? (i := 213) rfl) rfl
theorem w_454 : (Jvm.Cond.selects "HotEditions" ({ cls := "HotEditions", name := "transformer", desc := "(IIIZ)I" } : MethodName) ({ cls := "HotEditions", name := "transformer", desc := "(IIIZ)I" } : MethodName)) ∈ pmWs := pmWs_2 (List.mem_of_getElem? (i := 214) rfl) rfl
theorem w_455 : (Jvm.Cond.code ({ cls := "HotEditions", name := "transformer", desc := "(IIIZ)I" } : MethodName) prog_1_method_11_code (5 : Nat) (Option.some FieldType.int)) ∈ pmWs := pmWs_2 (List.mem_of_getElem? (i := 215) rfl) rfl
theorem w_456 : (Jvm.Cond.methodLink "HotEditions" (129 : Nat) ({ cls := "HotEditions$Chain", name := "put", desc := "(IIIZ)I" } : MethodName)) ∈ pmWs := pmWs_2 (List.mem_of_getElem? (i := 216) rfl) rfl
theorem w_457 : (Jvm.Cond.instanceMethod ({ cls := "HotEditions$Chain", name := "put", desc := "(IIIZ)I" } : MethodName)) ∈ pmWs := pmWs_2 (List.mem_of_getElem? (i := 217) rfl) rfl
theorem w_458 : (Jvm.Cond.selects "HotEditions$Chain" ({ cls := "HotEditions$Chain", name := "put", desc := "(IIIZ)I" } : MethodName) ({ cls := "HotEditions$Chain", name := "put", desc := "(IIIZ)I" } : MethodName)) ∈ pmWs := pmWs_2 (List.mem_of_getElem? (i := 218) rfl) rfl
theorem w_459 : (Jvm.Cond.code ({ cls := "HotEditions$Chain", name := "put", desc := "(IIIZ)I" } : MethodName) prog_3_method_2_code (7 : Nat) (Option.some FieldType.int)) ∈ pmWs := pmWs_2 (List.mem_of_getElem? (i := 219) rfl) rfl
theorem w_460 : (Jvm.Cond.methodLink "HotEditionsLaw" (58 : Nat) ({ cls := "HotEditions", name := "remove", desc := "(I)Z" } : MethodName)) ∈ pmWs := pmWs_2 (List.mem_of_getElem? (i := 220) rfl) rfl
theorem w_461 : (Jvm.Cond.instanceMethod ({ cls := "HotEditions", name := "remove", desc := "(I)Z" } : MethodName)) ∈ pmWs := pmWs_2 (List.mem_of_getElem? (i := 221) rfl) rfl
theorem w_462 : (Jvm.Cond.selects "HotEditions" ({ cls := "HotEditions", name := "remove", desc := "(I)Z" } : MethodName) ({ cls := "HotEditions", name := "remove", desc := "(I)Z" } : MethodName)) ∈ pmWs := pmWs_2 (List.mem_of_getElem? (i := 222) rfl) rfl
theorem w_463 : (Jvm.Cond.code ({ cls := "HotEditions", name := "remove", desc := "(I)Z" } : MethodName) prog_1_method_12_code (2 : Nat) (Option.some FieldType.boolean)) ∈ pmWs := pmWs_2 (List.mem_of_getElem? (i := 223) rfl) rfl
theorem w_464 : (Jvm.Cond.methodLink "HotEditions" (133 : Nat) ({ cls := "HotEditions$Chain", name := "free", desc := "(I)Z" } : MethodName)) ∈ pmWs := pmWs_2 (List.mem_of_getElem? (i := 224) rfl) rfl
theorem w_465 : (Jvm.Cond.instanceMethod ({ cls := "HotEditions$Chain", name := "free", desc := "(I)Z" } : MethodName)) ∈ pmWs := pmWs_2 (List.mem_of_getElem? (i := 225) rfl) rfl
theorem w_466 : (Jvm.Cond.selects "HotEditions$Chain" ({ cls := "HotEditions$Chain", name := "free", desc := "(I)Z" } : MethodName) ({ cls := "HotEditions$Chain", name := "free", desc := "(I)Z" } : MethodName)) ∈ pmWs := pmWs_2 (List.mem_of_getElem? (i := 226) rfl) rfl
theorem w_467 : (Jvm.Cond.code ({ cls := "HotEditions$Chain", name := "free", desc := "(I)Z" } : MethodName) prog_3_method_3_code (2 : Nat) (Option.some FieldType.boolean)) ∈ pmWs := pmWs_2 (List.mem_of_getElem? (i := 227) rfl) rfl
theorem w_468 : (Jvm.Cond.methodLink "HotEditionsLaw" (62 : Nat) ({ cls := "HotEditions", name := "queue", desc := "(I)Z" } : MethodName)) ∈ pmWs := pmWs_2 (List.mem_of_getElem? (i := 228) rfl) rfl
theorem w_469 : (Jvm.Cond.instanceMethod ({ cls := "HotEditions", name := "queue", desc := "(I)Z" } : MethodName)) ∈ pmWs := pmWs_2 (List.mem_of_getElem? (i := 229) rfl) rfl
theorem w_470 : (Jvm.Cond.selects "HotEditions" ({ cls := "HotEditions", name := "queue", desc := "(I)Z" } : MethodName) ({ cls := "HotEditions", name := "queue", desc := "(I)Z" } : MethodName)) ∈ pmWs := pmWs_2 (List.mem_of_getElem? (i := 230) rfl) rfl
theorem w_471 : (Jvm.Cond.code ({ cls := "HotEditions", name := "queue", desc := "(I)Z" } : MethodName) prog_1_method_13_code (2 : Nat) (Option.some FieldType.boolean)) ∈ pmWs := pmWs_2 (List.mem_of_getElem? (i := 231) rfl) rfl
theorem w_472 : (Jvm.Cond.methodLink "HotEditions" (136 : Nat) ({ cls := "HotEditions", name := "isInBatch", desc := "(I)Z" } : MethodName)) ∈ pmWs := pmWs_2 (List.mem_of_getElem? (i := 232) rfl) rfl
theorem w_474 : (Jvm.Cond.instanceMethod ({ cls := "HotEditions", name := "isInBatch", desc := "(I)Z" } : MethodName)) ∈ pmWs := pmWs_2 (List.mem_of_getElem? (i := 234) rfl) rfl
theorem w_475 : (Jvm.Cond.code ({ cls := "HotEditions", name := "isInBatch", desc := "(I)Z" } : MethodName) prog_1_method_24_code (3 : Nat) (Option.some FieldType.boolean)) ∈ pmWs := pmWs_2 (List.mem_of_getElem? (i := 235) rfl) rfl
theorem w_476 : (Jvm.Cond.methodLink "HotEditionsLaw" (66 : Nat) ({ cls := "HotEditions", name := "swap", desc := "()I" } : MethodName)) ∈ pmWs := pmWs_2 (List.mem_of_getElem? (i := 236) rfl) rfl
theorem w_477 : (Jvm.Cond.instanceMethod ({ cls := "HotEditions", name := "swap", desc := "()I" } : MethodName)) ∈ pmWs := pmWs_2 (List.mem_of_getElem? (i := 237) rfl) rfl
theorem w_478 : (Jvm.Cond.selects "HotEditions" ({ cls := "HotEditions", name := "swap", desc := "()I" } : MethodName) ({ cls := "HotEditions", name := "swap", desc := "()I" } : MethodName)) ∈ pmWs := pmWs_2 (List.mem_of_getElem? (i := 238) rfl) rfl
theorem w_479 : (Jvm.Cond.code ({ cls := "HotEditions", name := "swap", desc := "()I" } : MethodName) prog_1_method_14_code (2 : Nat) (Option.some FieldType.int)) ∈ pmWs := pmWs_2 (List.mem_of_getElem? (i := 239) rfl) rfl
theorem w_480 : (Jvm.Cond.methodLink "HotEditions" (139 : Nat) ({ cls := "HotEditions", name := "firstBrokenOfBatch", desc := "()I" } : MethodName)) ∈ pmWs := pmWs_3 (List.mem_of_getElem? (i := 0) rfl) rfl
theorem w_482 : (Jvm.Cond.instanceMethod ({ cls := "HotEditions", name := "firstBrokenOfBatch", desc := "()I" } : MethodName)) ∈ pmWs := pmWs_3 (List.mem_of_getElem? (i := 2) rfl) rfl
theorem w_483 : (Jvm.Cond.code ({ cls := "HotEditions", name := "firstBrokenOfBatch", desc := "()I" } : MethodName) prog_1_method_25_code (5 : Nat) (Option.some FieldType.int)) ∈ pmWs := pmWs_3 (List.mem_of_getElem? (i := 3) rfl) rfl
theorem w_484 : (Jvm.Cond.methodLink "HotEditions" (153 : Nat) ({ cls := "HotEditions$Rules", name := "firstBroken", desc := "(LHotEditions$Definition;ILHotEditions$Definition;LHotEditions$Shelf;)I" } : MethodName)) ∈ pmWs := pmWs_3 (List.mem_of_getElem? (i := 4) rfl) rfl
theorem w_485 : (Jvm.Cond.static ({ cls := "HotEditions$Rules", name := "firstBroken", desc := "(LHotEditions$Definition;ILHotEditions$Definition;LHotEditions$Shelf;)I" } : MethodName)) ∈ pmWs := pmWs_3 (List.mem_of_getElem? (i := 5) rfl) rfl
theorem w_486 : (Jvm.Cond.code ({ cls := "HotEditions$Rules", name := "firstBroken", desc := "(LHotEditions$Definition;ILHotEditions$Definition;LHotEditions$Shelf;)I" } : MethodName) prog_9_method_2_code (5 : Nat) (Option.some FieldType.int)) ∈ pmWs := pmWs_3 (List.mem_of_getElem? (i := 6) rfl) rfl
theorem w_487 : (Jvm.Cond.methodLink "HotEditions$Rules" (9 : Nat) ({ cls := "HotEditions$Rules", name := "firstBrokenAlone", desc := "(LHotEditions$Definition;LHotEditions$Shelf;)I" } : MethodName)) ∈ pmWs := pmWs_3 (List.mem_of_getElem? (i := 7) rfl) rfl
theorem w_488 : (Jvm.Cond.methodLink "HotEditions$Rules" (15 : Nat) ({ cls := "HotEditions$Rules", name := "firstBrokenBeside", desc := "(LHotEditions$Definition;ILHotEditions$Definition;)I" } : MethodName)) ∈ pmWs := pmWs_3 (List.mem_of_getElem? (i := 8) rfl) rfl
theorem w_489 : (Jvm.Cond.static ({ cls := "HotEditions$Rules", name := "firstBrokenBeside", desc := "(LHotEditions$Definition;ILHotEditions$Definition;)I" } : MethodName)) ∈ pmWs := pmWs_3 (List.mem_of_getElem? (i := 9) rfl) rfl
theorem w_490 : (Jvm.Cond.code ({ cls := "HotEditions$Rules", name := "firstBrokenBeside", desc := "(LHotEditions$Definition;ILHotEditions$Definition;)I" } : MethodName) prog_9_method_4_code (3 : Nat) (Option.some FieldType.int)) ∈ pmWs := pmWs_3 (List.mem_of_getElem? (i := 10) rfl) rfl
theorem w_491 : (Jvm.Cond.methodLink "HotEditions$Rules" (49 : Nat) ({ cls := "HotEditions$Definition", name := "hasInterfacesOf", desc := "(LHotEditions$Definition;)Z" } : MethodName)) ∈ pmWs := pmWs_3 (List.mem_of_getElem? (i := 11) rfl) rfl
theorem w_492 : (Jvm.Cond.instanceMethod ({ cls := "HotEditions$Definition", name := "hasInterfacesOf", desc := "(LHotEditions$Definition;)Z" } : MethodName)) ∈ pmWs := pmWs_3 (List.mem_of_getElem? (i := 12) rfl) rfl
theorem w_493 : (Jvm.Cond.selects "HotEditions$Definition" ({ cls := "HotEditions$Definition", name := "hasInterfacesOf", desc := "(LHotEditions$Definition;)Z" } : MethodName) ({ cls := "HotEditions$Definition", name := "hasInterfacesOf", desc := "(LHotEditions$Definition;)Z" } : MethodName)) ∈ pmWs := pmWs_3 (List.mem_of_getElem? (i := 13) rfl) rfl
theorem w_494 : (Jvm.Cond.code ({ cls := "HotEditions$Definition", name := "hasInterfacesOf", desc := "(LHotEditions$Definition;)Z" } : MethodName) prog_5_method_13_code (3 : Nat) (Option.some FieldType.boolean)) ∈ pmWs := pmWs_3 (List.mem_of_getElem? (i := 14) rfl) rfl
theorem w_495 : (Jvm.Cond.methodLink "HotEditions$Definition" (64 : Nat) ({ cls := "HotEditions$Definition", name := "hasInterface", desc := "(I)Z" } : MethodName)) ∈ pmWs := pmWs_3 (List.mem_of_getElem? (i := 15) rfl) rfl
theorem w_496 : (Jvm.Cond.instanceMethod ({ cls := "HotEditions$Definition", name := "hasInterface", desc := "(I)Z" } : MethodName)) ∈ pmWs := pmWs_3 (List.mem_of_getElem? (i := 16) rfl) rfl
theorem w_497 : (Jvm.Cond.selects "HotEditions$Definition" ({ cls := "HotEditions$Definition", name := "hasInterface", desc := "(I)Z" } : MethodName) ({ cls := "HotEditions$Definition", name := "hasInterface", desc := "(I)Z" } : MethodName)) ∈ pmWs := pmWs_3 (List.mem_of_getElem? (i := 17) rfl) rfl
theorem w_498 : (Jvm.Cond.code ({ cls := "HotEditions$Definition", name := "hasInterface", desc := "(I)Z" } : MethodName) prog_5_method_8_code (3 : Nat) (Option.some FieldType.boolean)) ∈ pmWs := pmWs_3 (List.mem_of_getElem? (i := 18) rfl) rfl
theorem w_499 : (Jvm.Cond.methodLink "HotEditions$Rules" (52 : Nat) ({ cls := "HotEditions$Definition", name := "hasFieldsOf", desc := "(LHotEditions$Definition;)Z" } : MethodName)) ∈ pmWs := pmWs_3 (List.mem_of_getElem? (i := 19) rfl) rfl
theorem w_500 : (Jvm.Cond.instanceMethod ({ cls := "HotEditions$Definition", name := "hasFieldsOf", desc := "(LHotEditions$Definition;)Z" } : MethodName)) ∈ pmWs := pmWs_3 (List.mem_of_getElem? (i := 20) rfl) rfl
theorem w_501 : (Jvm.Cond.selects "HotEditions$Definition" ({ cls := "HotEditions$Definition", name := "hasFieldsOf", desc := "(LHotEditions$Definition;)Z" } : MethodName) ({ cls := "HotEditions$Definition", name := "hasFieldsOf", desc := "(LHotEditions$Definition;)Z" } : MethodName)) ∈ pmWs := pmWs_3 (List.mem_of_getElem? (i := 21) rfl) rfl
theorem w_502 : (Jvm.Cond.code ({ cls := "HotEditions$Definition", name := "hasFieldsOf", desc := "(LHotEditions$Definition;)Z" } : MethodName) prog_5_method_12_code (3 : Nat) (Option.some FieldType.boolean)) ∈ pmWs := pmWs_3 (List.mem_of_getElem? (i := 22) rfl) rfl
theorem w_503 : (Jvm.Cond.methodLink "HotEditions$Rules" (55 : Nat) ({ cls := "HotEditions$Definition", name := "hasMethodNamesOf", desc := "(LHotEditions$Definition;)Z" } : MethodName)) ∈ pmWs := pmWs_3 (List.mem_of_getElem? (i := 23) rfl) rfl
theorem w_504 : (Jvm.Cond.instanceMethod ({ cls := "HotEditions$Definition", name := "hasMethodNamesOf", desc := "(LHotEditions$Definition;)Z" } : MethodName)) ∈ pmWs := pmWs_3 (List.mem_of_getElem? (i := 24) rfl) rfl
theorem w_505 : (Jvm.Cond.selects "HotEditions$Definition" ({ cls := "HotEditions$Definition", name := "hasMethodNamesOf", desc := "(LHotEditions$Definition;)Z" } : MethodName) ({ cls := "HotEditions$Definition", name := "hasMethodNamesOf", desc := "(LHotEditions$Definition;)Z" } : MethodName)) ∈ pmWs := pmWs_3 (List.mem_of_getElem? (i := 25) rfl) rfl
theorem w_506 : (Jvm.Cond.code ({ cls := "HotEditions$Definition", name := "hasMethodNamesOf", desc := "(LHotEditions$Definition;)Z" } : MethodName) prog_5_method_14_code (3 : Nat) (Option.some FieldType.boolean)) ∈ pmWs := pmWs_3 (List.mem_of_getElem? (i := 26) rfl) rfl
theorem w_507 : (Jvm.Cond.methodLink "HotEditions$Definition" (68 : Nat) ({ cls := "HotEditions$Definition", name := "findMethod", desc := "(I)LHotEditions$Method;" } : MethodName)) ∈ pmWs := pmWs_3 (List.mem_of_getElem? (i := 27) rfl) rfl
theorem w_508 : (Jvm.Cond.methodLink "HotEditions$Rules" (58 : Nat) ({ cls := "HotEditions$Definition", name := "hasMethodFlagsOf", desc := "(LHotEditions$Definition;)Z" } : MethodName)) ∈ pmWs := pmWs_3 (List.mem_of_getElem? (i := 28) rfl) rfl
theorem w_509 : (Jvm.Cond.instanceMethod ({ cls := "HotEditions$Definition", name := "hasMethodFlagsOf", desc := "(LHotEditions$Definition;)Z" } : MethodName)) ∈ pmWs := pmWs_3 (List.mem_of_getElem? (i := 29) rfl) rfl
theorem w_510 : (Jvm.Cond.selects "HotEditions$Definition" ({ cls := "HotEditions$Definition", name := "hasMethodFlagsOf", desc := "(LHotEditions$Definition;)Z" } : MethodName) ({ cls := "HotEditions$Definition", name := "hasMethodFlagsOf", desc := "(LHotEditions$Definition;)Z" } : MethodName)) ∈ pmWs := pmWs_3 (List.mem_of_getElem? (i := 30) rfl) rfl
theorem w_511 : (Jvm.Cond.code ({ cls := "HotEditions$Definition", name := "hasMethodFlagsOf", desc := "(LHotEditions$Definition;)Z" } : MethodName) prog_5_method_15_code (4 : Nat) (Option.some FieldType.boolean)) ∈ pmWs := pmWs_3 (List.mem_of_getElem? (i := 31) rfl) rfl
theorem w_512 : (Jvm.Cond.methodLink "HotEditions" (143 : Nat) ({ cls := "HotEditions", name := "installBatch", desc := "()V" } : MethodName)) ∈ pmWs := pmWs_3 (List.mem_of_getElem? (i := 32) rfl) rfl
theorem w_514 : (Jvm.Cond.instanceMethod ({ cls := "HotEditions", name := "installBatch", desc := "()V" } : MethodName)) ∈ pmWs := pmWs_3 (List.mem_of_getElem? (i := 34) rfl) rfl
theorem w_515 : (Jvm.Cond.code ({ cls := "HotEditions", name := "installBatch", desc := "()V" } : MethodName) prog_1_method_26_code (3 : Nat) (Option.none : Option FieldType)) ∈ pmWs := pmWs_3 (List.mem_of_getElem? (i := 35) rfl) rfl
theorem w_516 : (Jvm.Cond.methodLink "HotEditions" (157 : Nat) ({ cls := "HotEditions$LoadedClass", name := "addEdition", desc := "(LHotEditions$Definition;)V" } : MethodName)) ∈ pmWs := pmWs_3 (List.mem_of_getElem? (i := 36) rfl) rfl
theorem w_517 : (Jvm.Cond.methodLink "HotEditionsLaw" (70 : Nat) ({ cls := "HotEditions", name := "repeat", desc := "(I)I" } : MethodName)) ∈ pmWs := pmWs_3 (List.mem_of_getElem? (i := 37) rfl) rfl
theorem w_518 : (Jvm.Cond.instanceMethod ({ cls := "HotEditions", name := "repeat", desc := "(I)I" } : MethodName)) ∈ pmWs := pmWs_3 (List.mem_of_getElem? (i := 38) rfl) rfl
theorem w_519 : (Jvm.Cond.selects "HotEditions" ({ cls := "HotEditions", name := "repeat", desc := "(I)I" } : MethodName) ({ cls := "HotEditions", name := "repeat", desc := "(I)I" } : MethodName)) ∈ pmWs := pmWs_3 (List.mem_of_getElem? (i := 39) rfl) rfl
theorem w_520 : (Jvm.Cond.code ({ cls := "HotEditions", name := "repeat", desc := "(I)I" } : MethodName) prog_1_method_15_code (4 : Nat) (Option.some FieldType.int)) ∈ pmWs := pmWs_3 (List.mem_of_getElem? (i := 40) rfl) rfl
theorem w_521 : (Jvm.Cond.methodLink "HotEditions" (149 : Nat) ({ cls := "HotEditions$Chain", name := "change", desc := "(LHotEditions$Definition;IZ)V" } : MethodName)) ∈ pmWs := pmWs_3 (List.mem_of_getElem? (i := 41) rfl) rfl
theorem w_522 : (Jvm.Cond.methodLink "HotEditionsLaw" (75 : Nat) ({ cls := "HotEditions", name := "start", desc := "(III)Z" } : MethodName)) ∈ pmWs := pmWs_3 (List.mem_of_getElem? (i := 42) rfl) rfl
theorem w_523 : (Jvm.Cond.instanceMethod ({ cls := "HotEditions", name := "start", desc := "(III)Z" } : MethodName)) ∈ pmWs := pmWs_3 (List.mem_of_getElem? (i := 43) rfl) rfl
theorem w_524 : (Jvm.Cond.selects "HotEditions" ({ cls := "HotEditions", name := "start", desc := "(III)Z" } : MethodName) ({ cls := "HotEditions", name := "start", desc := "(III)Z" } : MethodName)) ∈ pmWs := pmWs_3 (List.mem_of_getElem? (i := 44) rfl) rfl
theorem w_525 : (Jvm.Cond.code ({ cls := "HotEditions", name := "start", desc := "(III)Z" } : MethodName) prog_1_method_16_code (4 : Nat) (Option.some FieldType.boolean)) ∈ pmWs := pmWs_3 (List.mem_of_getElem? (i := 45) rfl) rfl
theorem w_526 : (Jvm.Cond.methodLink "HotEditions" (160 : Nat) ({ cls := "HotEditions", name := "isThread", desc := "(I)Z" } : MethodName)) ∈ pmWs := pmWs_3 (List.mem_of_getElem? (i := 46) rfl) rfl
theorem w_527 : (Jvm.Cond.static ({ cls := "HotEditions", name := "isThread", desc := "(I)Z" } : MethodName)) ∈ pmWs := pmWs_3 (List.mem_of_getElem? (i := 47) rfl) rfl
theorem w_528 : (Jvm.Cond.code ({ cls := "HotEditions", name := "isThread", desc := "(I)Z" } : MethodName) prog_1_method_23_code (1 : Nat) (Option.some FieldType.boolean)) ∈ pmWs := pmWs_3 (List.mem_of_getElem? (i := 48) rfl) rfl
theorem w_529 : (Jvm.Cond.methodLink "HotEditions" (166 : Nat) ({ cls := "HotEditions$Calls", name := "enter", desc := "(IILHotEditions$Shelf;)Z" } : MethodName)) ∈ pmWs := pmWs_3 (List.mem_of_getElem? (i := 49) rfl) rfl
theorem w_530 : (Jvm.Cond.instanceMethod ({ cls := "HotEditions$Calls", name := "enter", desc := "(IILHotEditions$Shelf;)Z" } : MethodName)) ∈ pmWs := pmWs_3 (List.mem_of_getElem? (i := 50) rfl) rfl
theorem w_531 : (Jvm.Cond.selects "HotEditions$Calls" ({ cls := "HotEditions$Calls", name := "enter", desc := "(IILHotEditions$Shelf;)Z" } : MethodName) ({ cls := "HotEditions$Calls", name := "enter", desc := "(IILHotEditions$Shelf;)Z" } : MethodName)) ∈ pmWs := pmWs_3 (List.mem_of_getElem? (i := 51) rfl) rfl
theorem w_532 : (Jvm.Cond.code ({ cls := "HotEditions$Calls", name := "enter", desc := "(IILHotEditions$Shelf;)Z" } : MethodName) prog_2_method_2_code (6 : Nat) (Option.some FieldType.boolean)) ∈ pmWs := pmWs_3 (List.mem_of_getElem? (i := 52) rfl) rfl
theorem w_533 : (Jvm.Cond.methodLink "HotEditions$Calls" (25 : Nat) ({ cls := "HotEditions$Shelf", name := "find", desc := "(I)LHotEditions$LoadedClass;" } : MethodName)) ∈ pmWs := pmWs_3 (List.mem_of_getElem? (i := 53) rfl) rfl
theorem w_534 : (Jvm.Cond.methodLink "HotEditions$Calls" (37 : Nat) ({ cls := "HotEditions$Definition", name := "findMethod", desc := "(I)LHotEditions$Method;" } : MethodName)) ∈ pmWs := pmWs_3 (List.mem_of_getElem? (i := 54) rfl) rfl
theorem w_535 : (Jvm.Cond.methodLink "HotEditions$Calls" (52 : Nat) ({ cls := "HotEditions$Frame", name := "begin", desc := "(IILHotEditions$Code;)V" } : MethodName)) ∈ pmWs := pmWs_3 (List.mem_of_getElem? (i := 55) rfl) rfl
theorem w_536 : (Jvm.Cond.instanceMethod ({ cls := "HotEditions$Frame", name := "begin", desc := "(IILHotEditions$Code;)V" } : MethodName)) ∈ pmWs := pmWs_3 (List.mem_of_getElem? (i := 56) rfl) rfl
theorem w_537 : (Jvm.Cond.selects "HotEditions$Frame" ({ cls := "HotEditions$Frame", name := "begin", desc := "(IILHotEditions$Code;)V" } : MethodName) ({ cls := "HotEditions$Frame", name := "begin", desc := "(IILHotEditions$Code;)V" } : MethodName)) ∈ pmWs := pmWs_3 (List.mem_of_getElem? (i := 57) rfl) rfl
theorem w_538 : (Jvm.Cond.code ({ cls := "HotEditions$Frame", name := "begin", desc := "(IILHotEditions$Code;)V" } : MethodName) prog_6_method_2_code (4 : Nat) (Option.none : Option FieldType)) ∈ pmWs := pmWs_3 (List.mem_of_getElem? (i := 58) rfl) rfl
theorem w_539 : (Jvm.Cond.methodLink "HotEditions$Frame" (31 : Nat) ({ cls := "HotEditions$Code", name := "become", desc := "(LHotEditions$Code;)V" } : MethodName)) ∈ pmWs := pmWs_3 (List.mem_of_getElem? (i := 59) rfl) rfl
theorem w_540 : (Jvm.Cond.methodLink "HotEditionsLaw" (79 : Nat) ({ cls := "HotEditions", name := "step", desc := "(II)I" } : MethodName)) ∈ pmWs := pmWs_3 (List.mem_of_getElem? (i := 60) rfl) rfl
theorem w_541 : (Jvm.Cond.instanceMethod ({ cls := "HotEditions", name := "step", desc := "(II)I" } : MethodName)) ∈ pmWs := pmWs_3 (List.mem_of_getElem? (i := 61) rfl) rfl
theorem w_542 : (Jvm.Cond.selects "HotEditions" ({ cls := "HotEditions", name := "step", desc := "(II)I" } : MethodName) ({ cls := "HotEditions", name := "step", desc := "(II)I" } : MethodName)) ∈ pmWs := pmWs_3 (List.mem_of_getElem? (i := 62) rfl) rfl
theorem w_543 : (Jvm.Cond.code ({ cls := "HotEditions", name := "step", desc := "(II)I" } : MethodName) prog_1_method_17_code (4 : Nat) (Option.some FieldType.int)) ∈ pmWs := pmWs_3 (List.mem_of_getElem? (i := 63) rfl) rfl
theorem w_544 : (Jvm.Cond.methodLink "HotEditions" (170 : Nat) ({ cls := "HotEditions$Calls", name := "advance", desc := "(LHotEditions$Shelf;)V" } : MethodName)) ∈ pmWs := pmWs_3 (List.mem_of_getElem? (i := 64) rfl) rfl
theorem w_545 : (Jvm.Cond.instanceMethod ({ cls := "HotEditions$Calls", name := "advance", desc := "(LHotEditions$Shelf;)V" } : MethodName)) ∈ pmWs := pmWs_3 (List.mem_of_getElem? (i := 65) rfl) rfl
theorem w_546 : (Jvm.Cond.selects "HotEditions$Calls" ({ cls := "HotEditions$Calls", name := "advance", desc := "(LHotEditions$Shelf;)V" } : MethodName) ({ cls := "HotEditions$Calls", name := "advance", desc := "(LHotEditions$Shelf;)V" } : MethodName)) ∈ pmWs := pmWs_3 (List.mem_of_getElem? (i := 66) rfl) rfl
theorem w_547 : (Jvm.Cond.code ({ cls := "HotEditions$Calls", name := "advance", desc := "(LHotEditions$Shelf;)V" } : MethodName) prog_2_method_3_code (4 : Nat) (Option.none : Option FieldType)) ∈ pmWs := pmWs_3 (List.mem_of_getElem? (i := 67) rfl) rfl
theorem w_548 : (Jvm.Cond.methodLink "HotEditions$Calls" (68 : Nat) ({ cls := "HotEditions$Calls", name := "leave", desc := "(I)V" } : MethodName)) ∈ pmWs := pmWs_3 (List.mem_of_getElem? (i := 68) rfl) rfl
theorem w_550 : (Jvm.Cond.instanceMethod ({ cls := "HotEditions$Calls", name := "leave", desc := "(I)V" } : MethodName)) ∈ pmWs := pmWs_3 (List.mem_of_getElem? (i := 70) rfl) rfl
theorem w_551 : (Jvm.Cond.code ({ cls := "HotEditions$Calls", name := "leave", desc := "(I)V" } : MethodName) prog_2_method_4_code (2 : Nat) (Option.none : Option FieldType)) ∈ pmWs := pmWs_3 (List.mem_of_getElem? (i := 71) rfl) rfl
theorem w_552 : (Jvm.Cond.methodLink "HotEditions$Calls" (72 : Nat) ({ cls := "HotEditions$Code", name := "opAt", desc := "(I)I" } : MethodName)) ∈ pmWs := pmWs_3 (List.mem_of_getElem? (i := 72) rfl) rfl
theorem w_553 : (Jvm.Cond.methodLink "HotEditions$Calls" (76 : Nat) ({ cls := "HotEditions$Code", name := "firstOperandAt", desc := "(I)I" } : MethodName)) ∈ pmWs := pmWs_3 (List.mem_of_getElem? (i := 73) rfl) rfl
theorem w_554 : (Jvm.Cond.methodLink "HotEditions$Calls" (79 : Nat) ({ cls := "HotEditions$Code", name := "secondOperandAt", desc := "(I)I" } : MethodName)) ∈ pmWs := pmWs_3 (List.mem_of_getElem? (i := 74) rfl) rfl
theorem w_555 : (Jvm.Cond.methodLink "HotEditions$Calls" (82 : Nat) ({ cls := "HotEditions$Calls", name := "enter", desc := "(IILHotEditions$Shelf;)Z" } : MethodName)) ∈ pmWs := pmWs_3 (List.mem_of_getElem? (i := 75) rfl) rfl
theorem w_556 : (Jvm.Cond.methodLink "HotEditionsLaw" (84 : Nat) ({ cls := "HotEditions", name := "frame", desc := "(II)I" } : MethodName)) ∈ pmWs := pmWs_3 (List.mem_of_getElem? (i := 76) rfl) rfl
theorem w_557 : (Jvm.Cond.instanceMethod ({ cls := "HotEditions", name := "frame", desc := "(II)I" } : MethodName)) ∈ pmWs := pmWs_3 (List.mem_of_getElem? (i := 77) rfl) rfl
theorem w_558 : (Jvm.Cond.selects "HotEditions" ({ cls := "HotEditions", name := "frame", desc := "(II)I" } : MethodName) ({ cls := "HotEditions", name := "frame", desc := "(II)I" } : MethodName)) ∈ pmWs := pmWs_3 (List.mem_of_getElem? (i := 78) rfl) rfl
theorem w_559 : (Jvm.Cond.code ({ cls := "HotEditions", name := "frame", desc := "(II)I" } : MethodName) prog_1_method_18_code (4 : Nat) (Option.some FieldType.int)) ∈ pmWs := pmWs_3 (List.mem_of_getElem? (i := 79) rfl) rfl
theorem w_560 : (Jvm.Cond.methodLink "HotEditions" (174 : Nat) ({ cls := "HotEditions", name := "findFrame", desc := "(II)LHotEditions$Frame;" } : MethodName)) ∈ pmWs := pmWs_3 (List.mem_of_getElem? (i := 80) rfl) rfl
theorem w_562 : (Jvm.Cond.instanceMethod ({ cls := "HotEditions", name := "findFrame", desc := "(II)LHotEditions$Frame;" } : MethodName)) ∈ pmWs := pmWs_3 (List.mem_of_getElem? (i := 82) rfl) rfl
theorem w_563 : (Jvm.Cond.code ({ cls := "HotEditions", name := "findFrame", desc := "(II)LHotEditions$Frame;" } : MethodName) prog_1_method_27_code (3 : Nat) (Option.some (FieldType.object "HotEditions$Frame"))) ∈ pmWs := pmWs_3 (List.mem_of_getElem? (i := 83) rfl) rfl
theorem w_564 : (Jvm.Cond.methodLink "HotEditionsLaw" (88 : Nat) ({ cls := "HotEditions", name := "result", desc := "(I)I" } : MethodName)) ∈ pmWs := pmWs_3 (List.mem_of_getElem? (i := 84) rfl) rfl
theorem w_565 : (Jvm.Cond.instanceMethod ({ cls := "HotEditions", name := "result", desc := "(I)I" } : MethodName)) ∈ pmWs := pmWs_3 (List.mem_of_getElem? (i := 85) rfl) rfl
theorem w_566 : (Jvm.Cond.selects "HotEditions" ({ cls := "HotEditions", name := "result", desc := "(I)I" } : MethodName) ({ cls := "HotEditions", name := "result", desc := "(I)I" } : MethodName)) ∈ pmWs := pmWs_3 (List.mem_of_getElem? (i := 86) rfl) rfl
theorem w_567 : (Jvm.Cond.code ({ cls := "HotEditions", name := "result", desc := "(I)I" } : MethodName) prog_1_method_19_code (2 : Nat) (Option.some FieldType.int)) ∈ pmWs := pmWs_3 (List.mem_of_getElem? (i := 87) rfl) rfl
theorem w_568 : (Jvm.Cond.methodLink "HotEditionsLaw" (92 : Nat) ({ cls := "HotEditions", name := "edition", desc := "(I)I" } : MethodName)) ∈ pmWs := pmWs_3 (List.mem_of_getElem? (i := 88) rfl) rfl
theorem w_569 : (Jvm.Cond.instanceMethod ({ cls := "HotEditions", name := "edition", desc := "(I)I" } : MethodName)) ∈ pmWs := pmWs_3 (List.mem_of_getElem? (i := 89) rfl) rfl
theorem w_570 : (Jvm.Cond.selects "HotEditions" ({ cls := "HotEditions", name := "edition", desc := "(I)I" } : MethodName) ({ cls := "HotEditions", name := "edition", desc := "(I)I" } : MethodName)) ∈ pmWs := pmWs_3 (List.mem_of_getElem? (i := 90) rfl) rfl
theorem w_571 : (Jvm.Cond.code ({ cls := "HotEditions", name := "edition", desc := "(I)I" } : MethodName) prog_1_method_20_code (3 : Nat) (Option.some FieldType.int)) ∈ pmWs := pmWs_3 (List.mem_of_getElem? (i := 91) rfl) rfl
theorem w_572 : (Jvm.Cond.methodLink "HotEditionsLaw" (96 : Nat) ({ cls := "HotEditions", name := "kept", desc := "(I)I" } : MethodName)) ∈ pmWs := pmWs_3 (List.mem_of_getElem? (i := 92) rfl) rfl
theorem w_573 : (Jvm.Cond.instanceMethod ({ cls := "HotEditions", name := "kept", desc := "(I)I" } : MethodName)) ∈ pmWs := pmWs_3 (List.mem_of_getElem? (i := 93) rfl) rfl
theorem w_574 : (Jvm.Cond.selects "HotEditions" ({ cls := "HotEditions", name := "kept", desc := "(I)I" } : MethodName) ({ cls := "HotEditions", name := "kept", desc := "(I)I" } : MethodName)) ∈ pmWs := pmWs_3 (List.mem_of_getElem? (i := 94) rfl) rfl
theorem w_575 : (Jvm.Cond.code ({ cls := "HotEditions", name := "kept", desc := "(I)I" } : MethodName) prog_1_method_21_code (7 : Nat) (Option.some FieldType.int)) ∈ pmWs := pmWs_3 (List.mem_of_getElem? (i := 95) rfl) rfl
theorem w_576 : (Jvm.Cond.methodLink "HotEditions" (190 : Nat) ({ cls := "HotEditions", name := "isFirstOfItsEdition", desc := "(IILHotEditions$Frame;)Z" } : MethodName)) ∈ pmWs := pmWs_3 (List.mem_of_getElem? (i := 96) rfl) rfl
theorem w_578 : (Jvm.Cond.instanceMethod ({ cls := "HotEditions", name := "isFirstOfItsEdition", desc := "(IILHotEditions$Frame;)Z" } : MethodName)) ∈ pmWs := pmWs_3 (List.mem_of_getElem? (i := 98) rfl) rfl
theorem w_579 : (Jvm.Cond.code ({ cls := "HotEditions", name := "isFirstOfItsEdition", desc := "(IILHotEditions$Frame;)Z" } : MethodName) prog_1_method_28_code (6 : Nat) (Option.some FieldType.boolean)) ∈ pmWs := pmWs_3 (List.mem_of_getElem? (i := 99) rfl) rfl
theorem w_580 : (Jvm.Cond.classLink "HotEditionsLaw" (10 : Nat) "HotEditionsModel") ∈ pmWs := pmWs_3 (List.mem_of_getElem? (i := 100) rfl) rfl
theorem w_581 : (Jvm.Cond.instantiable "HotEditionsModel" (19 : Nat)) ∈ pmWs := pmWs_3 (List.mem_of_getElem? (i := 101) rfl) rfl
theorem w_582 : (Jvm.Cond.methodLink "HotEditionsLaw" (12 : Nat) ({ cls := "HotEditionsModel", name := "<init>", desc := "()V" } : MethodName)) ∈ pmWs := pmWs_3 (List.mem_of_getElem? (i := 102) rfl) rfl
theorem w_583 : (Jvm.Cond.instanceMethod ({ cls := "HotEditionsModel", name := "<init>", desc := "()V" } : MethodName)) ∈ pmWs := pmWs_3 (List.mem_of_getElem? (i := 103) rfl) rfl
theorem w_584 : (Jvm.Cond.code ({ cls := "HotEditionsModel", name := "<init>", desc := "()V" } : MethodName) prog_14_method_1_code (1 : Nat) (Option.none : Option FieldType)) ∈ pmWs := pmWs_3 (List.mem_of_getElem? (i := 104) rfl) rfl
theorem w_585 : (Jvm.Cond.methodLink "HotEditionsModel" (1 : Nat) ({ cls := "java/lang/Object", name := "<init>", desc := "()V" } : MethodName)) ∈ pmWs := pmWs_3 (List.mem_of_getElem? (i := 105) rfl) rfl
theorem w_586 : (Jvm.Cond.methodLink "HotEditionsModel" (66 : Nat) ({ cls := "HotEditionsModel", name := "blank", desc := "()V" } : MethodName)) ∈ pmWs := pmWs_3 (List.mem_of_getElem? (i := 106) rfl) rfl
theorem w_587 : (Jvm.Cond.instanceMethod ({ cls := "HotEditionsModel", name := "blank", desc := "()V" } : MethodName)) ∈ pmWs := pmWs_3 (List.mem_of_getElem? (i := 107) rfl) rfl
theorem w_588 : (Jvm.Cond.selects "HotEditionsModel" ({ cls := "HotEditionsModel", name := "blank", desc := "()V" } : MethodName) ({ cls := "HotEditionsModel", name := "blank", desc := "()V" } : MethodName)) ∈ pmWs := pmWs_3 (List.mem_of_getElem? (i := 108) rfl) rfl
theorem w_589 : (Jvm.Cond.code ({ cls := "HotEditionsModel", name := "blank", desc := "()V" } : MethodName) prog_14_method_6_code (2 : Nat) (Option.none : Option FieldType)) ∈ pmWs := pmWs_3 (List.mem_of_getElem? (i := 109) rfl) rfl
theorem w_590 : (Jvm.Cond.methodLink "HotEditionsModel" (73 : Nat) ({ cls := "HotEditionsModel", name := "put", desc := "(III)V" } : MethodName)) ∈ pmWs := pmWs_3 (List.mem_of_getElem? (i := 110) rfl) rfl
theorem w_592 : (Jvm.Cond.instanceMethod ({ cls := "HotEditionsModel", name := "put", desc := "(III)V" } : MethodName)) ∈ pmWs := pmWs_3 (List.mem_of_getElem? (i := 112) rfl) rfl
theorem w_593 : (Jvm.Cond.code ({ cls := "HotEditionsModel", name := "put", desc := "(III)V" } : MethodName) prog_14_method_3_code (4 : Nat) (Option.none : Option FieldType)) ∈ pmWs := pmWs_3 (List.mem_of_getElem? (i := 113) rfl) rfl
theorem w_594 : (Jvm.Cond.fieldLink "HotEditionsModel" (7 : Nat) "HotEditionsModel" "cell" "[I") ∈ pmWs := pmWs_3 (List.mem_of_getElem? (i := 114) rfl) rfl
theorem w_595 : (Jvm.Cond.fieldLink "HotEditionsModel" (13 : Nat) "HotEditionsModel" "chosen" "I") ∈ pmWs := pmWs_3 (List.mem_of_getElem? (i := 115) rfl) rfl
theorem w_596 : (Jvm.Cond.fieldLink "HotEditionsModel" (17 : Nat) "HotEditionsModel" "current" "[I") ∈ pmWs := pmWs_3 (List.mem_of_getElem? (i := 116) rfl) rfl
theorem w_597 : (Jvm.Cond.fieldLink "HotEditionsModel" (20 : Nat) "HotEditionsModel" "numbers" "[I") ∈ pmWs := pmWs_3 (List.mem_of_getElem? (i := 117) rfl) rfl
theorem w_598 : (Jvm.Cond.fieldLink "HotEditionsModel" (23 : Nat) "HotEditionsModel" "numberOf" "[I") ∈ pmWs := pmWs_3 (List.mem_of_getElem? (i := 118) rfl) rfl
theorem w_599 : (Jvm.Cond.fieldLink "HotEditionsModel" (26 : Nat) "HotEditionsModel" "classOf" "[I") ∈ pmWs := pmWs_3 (List.mem_of_getElem? (i := 119) rfl) rfl
theorem w_600 : (Jvm.Cond.fieldLink "HotEditionsModel" (29 : Nat) "HotEditionsModel" "taken" "[Z") ∈ pmWs := pmWs_3 (List.mem_of_getElem? (i := 120) rfl) rfl
theorem w_601 : (Jvm.Cond.fieldLink "HotEditionsModel" (33 : Nat) "HotEditionsModel" "kind" "[I") ∈ pmWs := pmWs_3 (List.mem_of_getElem? (i := 121) rfl) rfl
theorem w_602 : (Jvm.Cond.fieldLink "HotEditionsModel" (36 : Nat) "HotEditionsModel" "value" "[I") ∈ pmWs := pmWs_3 (List.mem_of_getElem? (i := 122) rfl) rfl
theorem w_603 : (Jvm.Cond.fieldLink "HotEditionsModel" (39 : Nat) "HotEditionsModel" "only" "[I") ∈ pmWs := pmWs_3 (List.mem_of_getElem? (i := 123) rfl) rfl
theorem w_604 : (Jvm.Cond.fieldLink "HotEditionsModel" (42 : Nat) "HotEditionsModel" "repeats" "[Z") ∈ pmWs := pmWs_3 (List.mem_of_getElem? (i := 124) rfl) rfl
theorem w_605 : (Jvm.Cond.fieldLink "HotEditionsModel" (140 : Nat) "HotEditionsModel" "batch" "I") ∈ pmWs := pmWs_3 (List.mem_of_getElem? (i := 125) rfl) rfl
theorem w_606 : (Jvm.Cond.fieldLink "HotEditionsModel" (45 : Nat) "HotEditionsModel" "meant" "[I") ∈ pmWs := pmWs_3 (List.mem_of_getElem? (i := 126) rfl) rfl
theorem w_607 : (Jvm.Cond.fieldLink "HotEditionsModel" (48 : Nat) "HotEditionsModel" "depth" "[I") ∈ pmWs := pmWs_3 (List.mem_of_getElem? (i := 127) rfl) rfl
theorem w_608 : (Jvm.Cond.fieldLink "HotEditionsModel" (51 : Nat) "HotEditionsModel" "frameRow" "[I") ∈ pmWs := pmWs_3 (List.mem_of_getElem? (i := 128) rfl) rfl
theorem w_609 : (Jvm.Cond.fieldLink "HotEditionsModel" (54 : Nat) "HotEditionsModel" "frameMethod" "[I") ∈ pmWs := pmWs_3 (List.mem_of_getElem? (i := 129) rfl) rfl
theorem w_610 : (Jvm.Cond.fieldLink "HotEditionsModel" (57 : Nat) "HotEditionsModel" "place" "[I") ∈ pmWs := pmWs_3 (List.mem_of_getElem? (i := 130) rfl) rfl
theorem w_611 : (Jvm.Cond.fieldLink "HotEditionsModel" (60 : Nat) "HotEditionsModel" "sum" "[I") ∈ pmWs := pmWs_3 (List.mem_of_getElem? (i := 131) rfl) rfl
theorem w_612 : (Jvm.Cond.fieldLink "HotEditionsModel" (63 : Nat) "HotEditionsModel" "results" "[I") ∈ pmWs := pmWs_3 (List.mem_of_getElem? (i := 132) rfl) rfl
theorem w_613 : (Jvm.Cond.laysFinal "HotEditionsModel" "HotEditionsModel" "cell" "[I") ∈ pmWs := pmWs_3 (List.mem_of_getElem? (i := 133) rfl) rfl
theorem w_615 : (Jvm.Cond.lays "HotEditionsModel" "HotEditionsModel" "chosen" "I") ∈ pmWs := pmWs_3 (List.mem_of_getElem? (i := 135) rfl) rfl
theorem w_617 : (Jvm.Cond.laysFinal "HotEditionsModel" "HotEditionsModel" "current" "[I") ∈ pmWs := pmWs_3 (List.mem_of_getElem? (i := 137) rfl) rfl
theorem w_619 : (Jvm.Cond.laysFinal "HotEditionsModel" "HotEditionsModel" "numbers" "[I") ∈ pmWs := pmWs_3 (List.mem_of_getElem? (i := 139) rfl) rfl
theorem w_621 : (Jvm.Cond.laysFinal "HotEditionsModel" "HotEditionsModel" "numberOf" "[I") ∈ pmWs := pmWs_3 (List.mem_of_getElem? (i := 141) rfl) rfl
theorem w_623 : (Jvm.Cond.laysFinal "HotEditionsModel" "HotEditionsModel" "classOf" "[I") ∈ pmWs := pmWs_3 (List.mem_of_getElem? (i := 143) rfl) rfl
theorem w_625 : (Jvm.Cond.laysFinal "HotEditionsModel" "HotEditionsModel" "taken" "[Z") ∈ pmWs := pmWs_3 (List.mem_of_getElem? (i := 145) rfl) rfl
theorem w_627 : (Jvm.Cond.laysFinal "HotEditionsModel" "HotEditionsModel" "kind" "[I") ∈ pmWs := pmWs_3 (List.mem_of_getElem? (i := 147) rfl) rfl
theorem w_629 : (Jvm.Cond.laysFinal "HotEditionsModel" "HotEditionsModel" "value" "[I") ∈ pmWs := pmWs_3 (List.mem_of_getElem? (i := 149) rfl) rfl
theorem w_631 : (Jvm.Cond.laysFinal "HotEditionsModel" "HotEditionsModel" "only" "[I") ∈ pmWs := pmWs_3 (List.mem_of_getElem? (i := 151) rfl) rfl
theorem w_633 : (Jvm.Cond.laysFinal "HotEditionsModel" "HotEditionsModel" "repeats" "[Z") ∈ pmWs := pmWs_3 (List.mem_of_getElem? (i := 153) rfl) rfl
theorem w_635 : (Jvm.Cond.lays "HotEditionsModel" "HotEditionsModel" "batch" "I") ∈ pmWs := pmWs_3 (List.mem_of_getElem? (i := 155) rfl) rfl
theorem w_637 : (Jvm.Cond.laysFinal "HotEditionsModel" "HotEditionsModel" "meant" "[I") ∈ pmWs := pmWs_3 (List.mem_of_getElem? (i := 157) rfl) rfl
theorem w_639 : (Jvm.Cond.laysFinal "HotEditionsModel" "HotEditionsModel" "depth" "[I") ∈ pmWs := pmWs_3 (List.mem_of_getElem? (i := 159) rfl) rfl
theorem w_641 : (Jvm.Cond.laysFinal "HotEditionsModel" "HotEditionsModel" "frameRow" "[I") ∈ pmWs := pmWs_3 (List.mem_of_getElem? (i := 161) rfl) rfl
theorem w_643 : (Jvm.Cond.laysFinal "HotEditionsModel" "HotEditionsModel" "frameMethod" "[I") ∈ pmWs := pmWs_3 (List.mem_of_getElem? (i := 163) rfl) rfl
theorem w_645 : (Jvm.Cond.laysFinal "HotEditionsModel" "HotEditionsModel" "place" "[I") ∈ pmWs := pmWs_3 (List.mem_of_getElem? (i := 165) rfl) rfl
theorem w_647 : (Jvm.Cond.laysFinal "HotEditionsModel" "HotEditionsModel" "sum" "[I") ∈ pmWs := pmWs_3 (List.mem_of_getElem? (i := 167) rfl) rfl
theorem w_649 : (Jvm.Cond.laysFinal "HotEditionsModel" "HotEditionsModel" "results" "[I") ∈ pmWs := pmWs_3 (List.mem_of_getElem? (i := 169) rfl) rfl
theorem w_652 : (Jvm.Cond.arrayClass FieldType.boolean) ∈ pmWs := pmWs_3 (List.mem_of_getElem? (i := 172) rfl) rfl
theorem w_653 : (Jvm.Cond.methodLink "HotEditionsLaw" (16 : Nat) ({ cls := "HotEditionsModel", name := "blank", desc := "()V" } : MethodName)) ∈ pmWs := pmWs_3 (List.mem_of_getElem? (i := 173) rfl) rfl
theorem w_654 : (Jvm.Cond.methodLink "HotEditionsLaw" (21 : Nat) ({ cls := "HotEditionsModel", name := "copy", desc := "(I)Z" } : MethodName)) ∈ pmWs := pmWs_3 (List.mem_of_getElem? (i := 174) rfl) rfl
theorem w_655 : (Jvm.Cond.instanceMethod ({ cls := "HotEditionsModel", name := "copy", desc := "(I)Z" } : MethodName)) ∈ pmWs := pmWs_3 (List.mem_of_getElem? (i := 175) rfl) rfl
theorem w_656 : (Jvm.Cond.selects "HotEditionsModel" ({ cls := "HotEditionsModel", name := "copy", desc := "(I)Z" } : MethodName) ({ cls := "HotEditionsModel", name := "copy", desc := "(I)Z" } : MethodName)) ∈ pmWs := pmWs_3 (List.mem_of_getElem? (i := 176) rfl) rfl
theorem w_657 : (Jvm.Cond.code ({ cls := "HotEditionsModel", name := "copy", desc := "(I)Z" } : MethodName) prog_14_method_7_code (2 : Nat) (Option.some FieldType.boolean)) ∈ pmWs := pmWs_3 (List.mem_of_getElem? (i := 177) rfl) rfl
theorem w_658 : (Jvm.Cond.methodLink "HotEditionsModel" (77 : Nat) ({ cls := "HotEditionsModel", name := "loaded", desc := "(I)Z" } : MethodName)) ∈ pmWs := pmWs_3 (List.mem_of_getElem? (i := 178) rfl) rfl
theorem w_660 : (Jvm.Cond.instanceMethod ({ cls := "HotEditionsModel", name := "loaded", desc := "(I)Z" } : MethodName)) ∈ pmWs := pmWs_3 (List.mem_of_getElem? (i := 180) rfl) rfl
theorem w_661 : (Jvm.Cond.code ({ cls := "HotEditionsModel", name := "loaded", desc := "(I)Z" } : MethodName) prog_14_method_5_code (2 : Nat) (Option.some FieldType.boolean)) ∈ pmWs := pmWs_3 (List.mem_of_getElem? (i := 181) rfl) rfl
theorem w_662 : (Jvm.Cond.methodLink "HotEditionsModel" (81 : Nat) ({ cls := "HotEditionsModel", name := "transcribe", desc := "(II)V" } : MethodName)) ∈ pmWs := pmWs_3 (List.mem_of_getElem? (i := 182) rfl) rfl
theorem w_664 : (Jvm.Cond.instanceMethod ({ cls := "HotEditionsModel", name := "transcribe", desc := "(II)V" } : MethodName)) ∈ pmWs := pmWs_3 (List.mem_of_getElem? (i := 184) rfl) rfl
theorem w_665 : (Jvm.Cond.code ({ cls := "HotEditionsModel", name := "transcribe", desc := "(II)V" } : MethodName) prog_14_method_4_code (4 : Nat) (Option.none : Option FieldType)) ∈ pmWs := pmWs_3 (List.mem_of_getElem? (i := 185) rfl) rfl
theorem w_666 : (Jvm.Cond.methodLink "HotEditionsModel" (69 : Nat) ({ cls := "HotEditionsModel", name := "get", desc := "(II)I" } : MethodName)) ∈ pmWs := pmWs_3 (List.mem_of_getElem? (i := 186) rfl) rfl
theorem w_668 : (Jvm.Cond.instanceMethod ({ cls := "HotEditionsModel", name := "get", desc := "(II)I" } : MethodName)) ∈ pmWs := pmWs_3 (List.mem_of_getElem? (i := 188) rfl) rfl
theorem w_669 : (Jvm.Cond.code ({ cls := "HotEditionsModel", name := "get", desc := "(II)I" } : MethodName) prog_14_method_2_code (3 : Nat) (Option.some FieldType.int)) ∈ pmWs := pmWs_3 (List.mem_of_getElem? (i := 189) rfl) rfl
theorem w_670 : (Jvm.Cond.methodLink "HotEditionsLaw" (26 : Nat) ({ cls := "HotEditionsModel", name := "set", desc := "(II)Z" } : MethodName)) ∈ pmWs := pmWs_3 (List.mem_of_getElem? (i := 190) rfl) rfl
theorem w_671 : (Jvm.Cond.instanceMethod ({ cls := "HotEditionsModel", name := "set", desc := "(II)Z" } : MethodName)) ∈ pmWs := pmWs_3 (List.mem_of_getElem? (i := 191) rfl) rfl
theorem w_672 : (Jvm.Cond.selects "HotEditionsModel" ({ cls := "HotEditionsModel", name := "set", desc := "(II)Z" } : MethodName) ({ cls := "HotEditionsModel", name := "set", desc := "(II)Z" } : MethodName)) ∈ pmWs := pmWs_3 (List.mem_of_getElem? (i := 192) rfl) rfl
theorem w_673 : (Jvm.Cond.code ({ cls := "HotEditionsModel", name := "set", desc := "(II)Z" } : MethodName) prog_14_method_8_code (3 : Nat) (Option.some FieldType.boolean)) ∈ pmWs := pmWs_3 (List.mem_of_getElem? (i := 193) rfl) rfl
theorem w_674 : (Jvm.Cond.methodLink "HotEditionsLaw" (30 : Nat) ({ cls := "HotEditionsModel", name := "implement", desc := "(I)Z" } : MethodName)) ∈ pmWs := pmWs_3 (List.mem_of_getElem? (i := 194) rfl) rfl
theorem w_675 : (Jvm.Cond.instanceMethod ({ cls := "HotEditionsModel", name := "implement", desc := "(I)Z" } : MethodName)) ∈ pmWs := pmWs_3 (List.mem_of_getElem? (i := 195) rfl) rfl
theorem w_676 : (Jvm.Cond.selects "HotEditionsModel" ({ cls := "HotEditionsModel", name := "implement", desc := "(I)Z" } : MethodName) ({ cls := "HotEditionsModel", name := "implement", desc := "(I)Z" } : MethodName)) ∈ pmWs := pmWs_3 (List.mem_of_getElem? (i := 196) rfl) rfl
theorem w_677 : (Jvm.Cond.code ({ cls := "HotEditionsModel", name := "implement", desc := "(I)Z" } : MethodName) prog_14_method_9_code (3 : Nat) (Option.some FieldType.boolean)) ∈ pmWs := pmWs_3 (List.mem_of_getElem? (i := 197) rfl) rfl
theorem w_678 : (Jvm.Cond.methodLink "HotEditionsLaw" (35 : Nat) ({ cls := "HotEditionsModel", name := "field", desc := "(III)Z" } : MethodName)) ∈ pmWs := pmWs_3 (List.mem_of_getElem? (i := 198) rfl) rfl
theorem w_679 : (Jvm.Cond.instanceMethod ({ cls := "HotEditionsModel", name := "field", desc := "(III)Z" } : MethodName)) ∈ pmWs := pmWs_3 (List.mem_of_getElem? (i := 199) rfl) rfl
theorem w_680 : (Jvm.Cond.selects "HotEditionsModel" ({ cls := "HotEditionsModel", name := "field", desc := "(III)Z" } : MethodName) ({ cls := "HotEditionsModel", name := "field", desc := "(III)Z" } : MethodName)) ∈ pmWs := pmWs_3 (List.mem_of_getElem? (i := 200) rfl) rfl
theorem w_681 : (Jvm.Cond.code ({ cls := "HotEditionsModel", name := "field", desc := "(III)Z" } : MethodName) prog_14_method_10_code (5 : Nat) (Option.some FieldType.boolean)) ∈ pmWs := pmWs_3 (List.mem_of_getElem? (i := 201) rfl) rfl
theorem w_682 : (Jvm.Cond.methodLink "HotEditionsLaw" (39 : Nat) ({ cls := "HotEditionsModel", name := "method", desc := "(II)Z" } : MethodName)) ∈ pmWs := pmWs_3 (List.mem_of_getElem? (i := 202) rfl) rfl
theorem w_683 : (Jvm.Cond.instanceMethod ({ cls := "HotEditionsModel", name := "method", desc := "(II)Z" } : MethodName)) ∈ pmWs := pmWs_3 (List.mem_of_getElem? (i := 203) rfl) rfl
theorem w_684 : (Jvm.Cond.selects "HotEditionsModel" ({ cls := "HotEditionsModel", name := "method", desc := "(II)Z" } : MethodName) ({ cls := "HotEditionsModel", name := "method", desc := "(II)Z" } : MethodName)) ∈ pmWs := pmWs_3 (List.mem_of_getElem? (i := 204) rfl) rfl
theorem w_685 : (Jvm.Cond.code ({ cls := "HotEditionsModel", name := "method", desc := "(II)Z" } : MethodName) prog_14_method_12_code (4 : Nat) (Option.some FieldType.boolean)) ∈ pmWs := pmWs_3 (List.mem_of_getElem? (i := 205) rfl) rfl
theorem w_686 : (Jvm.Cond.methodLink "HotEditionsModel" (85 : Nat) ({ cls := "HotEditionsModel", name := "methodAt", desc := "(I)I" } : MethodName)) ∈ pmWs := pmWs_3 (List.mem_of_getElem? (i := 206) rfl) rfl
theorem w_687 : (Jvm.Cond.static ({ cls := "HotEditionsModel", name := "methodAt", desc := "(I)I" } : MethodName)) ∈ pmWs := pmWs_3 (List.mem_of_getElem? (i := 207) rfl) rfl
theorem w_688 : (Jvm.Cond.code ({ cls := "HotEditionsModel", name := "methodAt", desc := "(I)I" } : MethodName) prog_14_method_11_code (1 : Nat) (Option.some FieldType.int)) ∈ pmWs := pmWs_3 (List.mem_of_getElem? (i := 208) rfl) rfl
theorem w_689 : (Jvm.Cond.methodLink "HotEditionsLaw" (43 : Nat) ({ cls := "HotEditionsModel", name := "choose", desc := "(I)Z" } : MethodName)) ∈ pmWs := pmWs_3 (List.mem_of_getElem? (i := 209) rfl) rfl
theorem w_690 : (Jvm.Cond.instanceMethod ({ cls := "HotEditionsModel", name := "choose", desc := "(I)Z" } : MethodName)) ∈ pmWs := pmWs_3 (List.mem_of_getElem? (i := 210) rfl) rfl
theorem w_691 : (Jvm.Cond.selects "HotEditionsModel" ({ cls := "HotEditionsModel", name := "choose", desc := "(I)Z" } : MethodName) ({ cls := "HotEditionsModel", name := "choose", desc := "(I)Z" } : MethodName)) ∈ pmWs := pmWs_3 (List.mem_of_getElem? (i := 211) rfl) rfl
theorem w_692 : (Jvm.Cond.code ({ cls := "HotEditionsModel", name := "choose", desc := "(I)Z" } : MethodName) prog_14_method_13_code (2 : Nat) (Option.some FieldType.boolean)) ∈ pmWs := pmWs_3 (List.mem_of_getElem? (i := 212) rfl) rfl
theorem w_693 : (Jvm.Cond.methodLink "HotEditionsLaw" (47 : Nat) ({ cls := "HotEditionsModel", name := "code", desc := "(III)Z" } : MethodName)) ∈ pmWs := pmWs_3 (List.mem_of_getElem? (i := 213) rfl) rfl
theorem w_694 : (Jvm.Cond.instanceMethod ({ cls := "HotEditionsModel", name := "code", desc := "(III)Z" } : MethodName)) ∈ pmWs := pmWs_3 (List.mem_of_getElem? (i := 214) rfl) rfl
theorem w_695 : (Jvm.Cond.selects "HotEditionsModel" ({ cls := "HotEditionsModel", name := "code", desc := "(III)Z" } : MethodName) ({ cls := "HotEditionsModel", name := "code", desc := "(III)Z" } : MethodName)) ∈ pmWs := pmWs_3 (List.mem_of_getElem? (i := 215) rfl) rfl
theorem w_696 : (Jvm.Cond.code ({ cls := "HotEditionsModel", name := "code", desc := "(III)Z" } : MethodName) prog_14_method_14_code (6 : Nat) (Option.some FieldType.boolean)) ∈ pmWs := pmWs_3 (List.mem_of_getElem? (i := 216) rfl) rfl
theorem w_697 : (Jvm.Cond.methodLink "HotEditionsLaw" (57 : Nat) ({ cls := "HotEditionsModel", name := "transformer", desc := "(IIIZ)I" } : MethodName)) ∈ pmWs := pmWs_3 (List.mem_of_getElem? (i := 217) rfl) rfl
theorem w_698 : (Jvm.Cond.instanceMethod ({ cls := "HotEditionsModel", name := "transformer", desc := "(IIIZ)I" } : MethodName)) ∈ pmWs := pmWs_3 (List.mem_of_getElem? (i := 218) rfl) rfl
theorem w_699 : (Jvm.Cond.selects "HotEditionsModel" ({ cls := "HotEditionsModel", name := "transformer", desc := "(IIIZ)I" } : MethodName) ({ cls := "HotEditionsModel", name := "transformer", desc := "(IIIZ)I" } : MethodName)) ∈ pmWs := pmWs_3 (List.mem_of_getElem? (i := 219) rfl) rfl
theorem w_700 : (Jvm.Cond.code ({ cls := "HotEditionsModel", name := "transformer", desc := "(IIIZ)I" } : MethodName) prog_14_method_15_code (6 : Nat) (Option.some FieldType.int)) ∈ pmWs := pmWs_3 (List.mem_of_getElem? (i := 220) rfl) rfl
theorem w_701 : (Jvm.Cond.methodLink "HotEditionsLaw" (61 : Nat) ({ cls := "HotEditionsModel", name := "remove", desc := "(I)Z" } : MethodName)) ∈ pmWs := pmWs_3 (List.mem_of_getElem? (i := 221) rfl) rfl
theorem w_702 : (Jvm.Cond.instanceMethod ({ cls := "HotEditionsModel", name := "remove", desc := "(I)Z" } : MethodName)) ∈ pmWs := pmWs_3 (List.mem_of_getElem? (i := 222) rfl) rfl
theorem w_703 : (Jvm.Cond.selects "HotEditionsModel" ({ cls := "HotEditionsModel", name := "remove", desc := "(I)Z" } : MethodName) ({ cls := "HotEditionsModel", name := "remove", desc := "(I)Z" } : MethodName)) ∈ pmWs := pmWs_3 (List.mem_of_getElem? (i := 223) rfl) rfl
theorem w_704 : (Jvm.Cond.code ({ cls := "HotEditionsModel", name := "remove", desc := "(I)Z" } : MethodName) prog_14_method_16_code (2 : Nat) (Option.some FieldType.boolean)) ∈ pmWs := pmWs_3 (List.mem_of_getElem? (i := 224) rfl) rfl
theorem w_705 : (Jvm.Cond.methodLink "HotEditionsLaw" (52 : Nat) ({ cls := "HotEditionsModel", name := "load", desc := "()I" } : MethodName)) ∈ pmWs := pmWs_3 (List.mem_of_getElem? (i := 225) rfl) rfl
theorem w_706 : (Jvm.Cond.instanceMethod ({ cls := "HotEditionsModel", name := "load", desc := "()I" } : MethodName)) ∈ pmWs := pmWs_3 (List.mem_of_getElem? (i := 226) rfl) rfl
theorem w_707 : (Jvm.Cond.selects "HotEditionsModel" ({ cls := "HotEditionsModel", name := "load", desc := "()I" } : MethodName) ({ cls := "HotEditionsModel", name := "load", desc := "()I" } : MethodName)) ∈ pmWs := pmWs_3 (List.mem_of_getElem? (i := 227) rfl) rfl
theorem w_708 : (Jvm.Cond.code ({ cls := "HotEditionsModel", name := "load", desc := "()I" } : MethodName) prog_14_method_34_code (3 : Nat) (Option.some FieldType.int)) ∈ pmWs := pmWs_3 (List.mem_of_getElem? (i := 228) rfl) rfl
theorem w_709 : (Jvm.Cond.methodLink "HotEditionsModel" (134 : Nat) ({ cls := "HotEditionsModel", name := "treat", desc := "(III)V" } : MethodName)) ∈ pmWs := pmWs_3 (List.mem_of_getElem? (i := 229) rfl) rfl
theorem w_711 : (Jvm.Cond.instanceMethod ({ cls := "HotEditionsModel", name := "treat", desc := "(III)V" } : MethodName)) ∈ pmWs := pmWs_3 (List.mem_of_getElem? (i := 231) rfl) rfl
theorem w_712 : (Jvm.Cond.code ({ cls := "HotEditionsModel", name := "treat", desc := "(III)V" } : MethodName) prog_14_method_20_code (4 : Nat) (Option.none : Option FieldType)) ∈ pmWs := pmWs_3 (List.mem_of_getElem? (i := 232) rfl) rfl
theorem w_713 : (Jvm.Cond.methodLink "HotEditionsModel" (95 : Nat) ({ cls := "HotEditionsModel", name := "changes", desc := "(IIZ)V" } : MethodName)) ∈ pmWs := pmWs_3 (List.mem_of_getElem? (i := 233) rfl) rfl
theorem w_715 : (Jvm.Cond.instanceMethod ({ cls := "HotEditionsModel", name := "changes", desc := "(IIZ)V" } : MethodName)) ∈ pmWs := pmWs_3 (List.mem_of_getElem? (i := 235) rfl) rfl
theorem w_716 : (Jvm.Cond.code ({ cls := "HotEditionsModel", name := "changes", desc := "(IIZ)V" } : MethodName) prog_14_method_19_code (5 : Nat) (Option.none : Option FieldType)) ∈ pmWs := pmWs_3 (List.mem_of_getElem? (i := 236) rfl) rfl
theorem w_717 : (Jvm.Cond.methodLink "HotEditionsModel" (92 : Nat) ({ cls := "HotEditionsModel", name := "change", desc := "(II)V" } : MethodName)) ∈ pmWs := pmWs_3 (List.mem_of_getElem? (i := 237) rfl) rfl
theorem w_719 : (Jvm.Cond.instanceMethod ({ cls := "HotEditionsModel", name := "change", desc := "(II)V" } : MethodName)) ∈ pmWs := pmWs_3 (List.mem_of_getElem? (i := 239) rfl) rfl
theorem w_720 : (Jvm.Cond.code ({ cls := "HotEditionsModel", name := "change", desc := "(II)V" } : MethodName) prog_14_method_18_code (8 : Nat) (Option.none : Option FieldType)) ∈ pmWs := pmWs_4 (List.mem_of_getElem? (i := 0) rfl) rfl
theorem w_721 : (Jvm.Cond.methodLink "HotEditionsModel" (89 : Nat) ({ cls := "HotEditionsModel", name := "find", desc := "(II)I" } : MethodName)) ∈ pmWs := pmWs_4 (List.mem_of_getElem? (i := 1) rfl) rfl
theorem w_723 : (Jvm.Cond.instanceMethod ({ cls := "HotEditionsModel", name := "find", desc := "(II)I" } : MethodName)) ∈ pmWs := pmWs_4 (List.mem_of_getElem? (i := 3) rfl) rfl
theorem w_724 : (Jvm.Cond.code ({ cls := "HotEditionsModel", name := "find", desc := "(II)I" } : MethodName) prog_14_method_17_code (4 : Nat) (Option.some FieldType.int)) ∈ pmWs := pmWs_4 (List.mem_of_getElem? (i := 4) rfl) rfl
theorem w_725 : (Jvm.Cond.methodLink "HotEditionsModel" (112 : Nat) ({ cls := "HotEditionsModel", name := "plainRules", desc := "(I)I" } : MethodName)) ∈ pmWs := pmWs_4 (List.mem_of_getElem? (i := 5) rfl) rfl
theorem w_727 : (Jvm.Cond.instanceMethod ({ cls := "HotEditionsModel", name := "plainRules", desc := "(I)I" } : MethodName)) ∈ pmWs := pmWs_4 (List.mem_of_getElem? (i := 7) rfl) rfl
theorem w_728 : (Jvm.Cond.code ({ cls := "HotEditionsModel", name := "plainRules", desc := "(I)I" } : MethodName) prog_14_method_25_code (4 : Nat) (Option.some FieldType.int)) ∈ pmWs := pmWs_4 (List.mem_of_getElem? (i := 8) rfl) rfl
theorem w_729 : (Jvm.Cond.methodLink "HotEditionsModel" (99 : Nat) ({ cls := "HotEditionsModel", name := "twice", desc := "(IIII)Z" } : MethodName)) ∈ pmWs := pmWs_4 (List.mem_of_getElem? (i := 9) rfl) rfl
theorem w_731 : (Jvm.Cond.instanceMethod ({ cls := "HotEditionsModel", name := "twice", desc := "(IIII)Z" } : MethodName)) ∈ pmWs := pmWs_4 (List.mem_of_getElem? (i := 11) rfl) rfl
theorem w_732 : (Jvm.Cond.code ({ cls := "HotEditionsModel", name := "twice", desc := "(IIII)Z" } : MethodName) prog_14_method_21_code (8 : Nat) (Option.some FieldType.boolean)) ∈ pmWs := pmWs_4 (List.mem_of_getElem? (i := 12) rfl) rfl
theorem w_733 : (Jvm.Cond.methodLink "HotEditionsModel" (103 : Nat) ({ cls := "HotEditionsModel", name := "strangeOp", desc := "(I)Z" } : MethodName)) ∈ pmWs := pmWs_4 (List.mem_of_getElem? (i := 13) rfl) rfl
theorem w_735 : (Jvm.Cond.instanceMethod ({ cls := "HotEditionsModel", name := "strangeOp", desc := "(I)Z" } : MethodName)) ∈ pmWs := pmWs_4 (List.mem_of_getElem? (i := 15) rfl) rfl
theorem w_736 : (Jvm.Cond.code ({ cls := "HotEditionsModel", name := "strangeOp", desc := "(I)Z" } : MethodName) prog_14_method_22_code (7 : Nat) (Option.some FieldType.boolean)) ∈ pmWs := pmWs_4 (List.mem_of_getElem? (i := 16) rfl) rfl
theorem w_737 : (Jvm.Cond.methodLink "HotEditionsModel" (106 : Nat) ({ cls := "HotEditionsModel", name := "circle", desc := "(I)Z" } : MethodName)) ∈ pmWs := pmWs_4 (List.mem_of_getElem? (i := 17) rfl) rfl
theorem w_739 : (Jvm.Cond.instanceMethod ({ cls := "HotEditionsModel", name := "circle", desc := "(I)Z" } : MethodName)) ∈ pmWs := pmWs_4 (List.mem_of_getElem? (i := 19) rfl) rfl
theorem w_740 : (Jvm.Cond.code ({ cls := "HotEditionsModel", name := "circle", desc := "(I)Z" } : MethodName) prog_14_method_23_code (6 : Nat) (Option.some FieldType.boolean)) ∈ pmWs := pmWs_4 (List.mem_of_getElem? (i := 20) rfl) rfl
theorem w_741 : (Jvm.Cond.methodLink "HotEditionsModel" (109 : Nat) ({ cls := "HotEditionsModel", name := "callsNothing", desc := "(I)Z" } : MethodName)) ∈ pmWs := pmWs_4 (List.mem_of_getElem? (i := 21) rfl) rfl
theorem w_743 : (Jvm.Cond.instanceMethod ({ cls := "HotEditionsModel", name := "callsNothing", desc := "(I)Z" } : MethodName)) ∈ pmWs := pmWs_4 (List.mem_of_getElem? (i := 23) rfl) rfl
theorem w_744 : (Jvm.Cond.code ({ cls := "HotEditionsModel", name := "callsNothing", desc := "(I)Z" } : MethodName) prog_14_method_24_code (9 : Nat) (Option.some FieldType.boolean)) ∈ pmWs := pmWs_4 (List.mem_of_getElem? (i := 24) rfl) rfl
theorem w_745 : (Jvm.Cond.methodLink "HotEditionsModel" (137 : Nat) ({ cls := "HotEditionsModel", name := "renew", desc := "(II)V" } : MethodName)) ∈ pmWs := pmWs_4 (List.mem_of_getElem? (i := 25) rfl) rfl
theorem w_747 : (Jvm.Cond.instanceMethod ({ cls := "HotEditionsModel", name := "renew", desc := "(II)V" } : MethodName)) ∈ pmWs := pmWs_4 (List.mem_of_getElem? (i := 27) rfl) rfl
theorem w_748 : (Jvm.Cond.code ({ cls := "HotEditionsModel", name := "renew", desc := "(II)V" } : MethodName) prog_14_method_33_code (4 : Nat) (Option.none : Option FieldType)) ∈ pmWs := pmWs_4 (List.mem_of_getElem? (i := 28) rfl) rfl
theorem w_749 : (Jvm.Cond.methodLink "HotEditionsModel" (131 : Nat) ({ cls := "HotEditionsModel", name := "inUse", desc := "(I)Z" } : MethodName)) ∈ pmWs := pmWs_4 (List.mem_of_getElem? (i := 29) rfl) rfl
theorem w_751 : (Jvm.Cond.instanceMethod ({ cls := "HotEditionsModel", name := "inUse", desc := "(I)Z" } : MethodName)) ∈ pmWs := pmWs_4 (List.mem_of_getElem? (i := 31) rfl) rfl
theorem w_752 : (Jvm.Cond.code ({ cls := "HotEditionsModel", name := "inUse", desc := "(I)Z" } : MethodName) prog_14_method_32_code (4 : Nat) (Option.some FieldType.boolean)) ∈ pmWs := pmWs_4 (List.mem_of_getElem? (i := 32) rfl) rfl
theorem w_753 : (Jvm.Cond.methodLink "HotEditionsModel" (128 : Nat) ({ cls := "HotEditionsModel", name := "inFrames", desc := "(I)Z" } : MethodName)) ∈ pmWs := pmWs_4 (List.mem_of_getElem? (i := 33) rfl) rfl
theorem w_755 : (Jvm.Cond.instanceMethod ({ cls := "HotEditionsModel", name := "inFrames", desc := "(I)Z" } : MethodName)) ∈ pmWs := pmWs_4 (List.mem_of_getElem? (i := 35) rfl) rfl
theorem w_756 : (Jvm.Cond.code ({ cls := "HotEditionsModel", name := "inFrames", desc := "(I)Z" } : MethodName) prog_14_method_31_code (5 : Nat) (Option.some FieldType.boolean)) ∈ pmWs := pmWs_4 (List.mem_of_getElem? (i := 36) rfl) rfl
theorem w_757 : (Jvm.Cond.methodLink "HotEditionsLaw" (65 : Nat) ({ cls := "HotEditionsModel", name := "queue", desc := "(I)Z" } : MethodName)) ∈ pmWs := pmWs_4 (List.mem_of_getElem? (i := 37) rfl) rfl
theorem w_758 : (Jvm.Cond.instanceMethod ({ cls := "HotEditionsModel", name := "queue", desc := "(I)Z" } : MethodName)) ∈ pmWs := pmWs_4 (List.mem_of_getElem? (i := 38) rfl) rfl
theorem w_759 : (Jvm.Cond.selects "HotEditionsModel" ({ cls := "HotEditionsModel", name := "queue", desc := "(I)Z" } : MethodName) ({ cls := "HotEditionsModel", name := "queue", desc := "(I)Z" } : MethodName)) ∈ pmWs := pmWs_4 (List.mem_of_getElem? (i := 39) rfl) rfl
theorem w_760 : (Jvm.Cond.code ({ cls := "HotEditionsModel", name := "queue", desc := "(I)Z" } : MethodName) prog_14_method_35_code (3 : Nat) (Option.some FieldType.boolean)) ∈ pmWs := pmWs_4 (List.mem_of_getElem? (i := 40) rfl) rfl
theorem w_761 : (Jvm.Cond.methodLink "HotEditionsLaw" (69 : Nat) ({ cls := "HotEditionsModel", name := "swap", desc := "()I" } : MethodName)) ∈ pmWs := pmWs_4 (List.mem_of_getElem? (i := 41) rfl) rfl
theorem w_762 : (Jvm.Cond.instanceMethod ({ cls := "HotEditionsModel", name := "swap", desc := "()I" } : MethodName)) ∈ pmWs := pmWs_4 (List.mem_of_getElem? (i := 42) rfl) rfl
theorem w_763 : (Jvm.Cond.selects "HotEditionsModel" ({ cls := "HotEditionsModel", name := "swap", desc := "()I" } : MethodName) ({ cls := "HotEditionsModel", name := "swap", desc := "()I" } : MethodName)) ∈ pmWs := pmWs_4 (List.mem_of_getElem? (i := 43) rfl) rfl
theorem w_764 : (Jvm.Cond.code ({ cls := "HotEditionsModel", name := "swap", desc := "()I" } : MethodName) prog_14_method_36_code (4 : Nat) (Option.some FieldType.int)) ∈ pmWs := pmWs_4 (List.mem_of_getElem? (i := 44) rfl) rfl
theorem w_765 : (Jvm.Cond.methodLink "HotEditionsModel" (143 : Nat) ({ cls := "HotEditionsModel", name := "rules", desc := "(II)I" } : MethodName)) ∈ pmWs := pmWs_4 (List.mem_of_getElem? (i := 45) rfl) rfl
theorem w_767 : (Jvm.Cond.instanceMethod ({ cls := "HotEditionsModel", name := "rules", desc := "(II)I" } : MethodName)) ∈ pmWs := pmWs_4 (List.mem_of_getElem? (i := 47) rfl) rfl
theorem w_768 : (Jvm.Cond.code ({ cls := "HotEditionsModel", name := "rules", desc := "(II)I" } : MethodName) prog_14_method_30_code (5 : Nat) (Option.some FieldType.int)) ∈ pmWs := pmWs_4 (List.mem_of_getElem? (i := 48) rfl) rfl
theorem w_769 : (Jvm.Cond.methodLink "HotEditionsModel" (115 : Nat) ({ cls := "HotEditionsModel", name := "otherInterfaces", desc := "(II)Z" } : MethodName)) ∈ pmWs := pmWs_4 (List.mem_of_getElem? (i := 49) rfl) rfl
theorem w_771 : (Jvm.Cond.instanceMethod ({ cls := "HotEditionsModel", name := "otherInterfaces", desc := "(II)Z" } : MethodName)) ∈ pmWs := pmWs_4 (List.mem_of_getElem? (i := 51) rfl) rfl
theorem w_772 : (Jvm.Cond.code ({ cls := "HotEditionsModel", name := "otherInterfaces", desc := "(II)Z" } : MethodName) prog_14_method_26_code (7 : Nat) (Option.some FieldType.boolean)) ∈ pmWs := pmWs_4 (List.mem_of_getElem? (i := 52) rfl) rfl
theorem w_773 : (Jvm.Cond.methodLink "HotEditionsModel" (119 : Nat) ({ cls := "HotEditionsModel", name := "otherFields", desc := "(II)Z" } : MethodName)) ∈ pmWs := pmWs_4 (List.mem_of_getElem? (i := 53) rfl) rfl
theorem w_775 : (Jvm.Cond.instanceMethod ({ cls := "HotEditionsModel", name := "otherFields", desc := "(II)Z" } : MethodName)) ∈ pmWs := pmWs_4 (List.mem_of_getElem? (i := 55) rfl) rfl
theorem w_776 : (Jvm.Cond.code ({ cls := "HotEditionsModel", name := "otherFields", desc := "(II)Z" } : MethodName) prog_14_method_27_code (5 : Nat) (Option.some FieldType.boolean)) ∈ pmWs := pmWs_4 (List.mem_of_getElem? (i := 56) rfl) rfl
theorem w_777 : (Jvm.Cond.methodLink "HotEditionsModel" (122 : Nat) ({ cls := "HotEditionsModel", name := "moreMethods", desc := "(II)Z" } : MethodName)) ∈ pmWs := pmWs_4 (List.mem_of_getElem? (i := 57) rfl) rfl
theorem w_779 : (Jvm.Cond.instanceMethod ({ cls := "HotEditionsModel", name := "moreMethods", desc := "(II)Z" } : MethodName)) ∈ pmWs := pmWs_4 (List.mem_of_getElem? (i := 59) rfl) rfl
theorem w_780 : (Jvm.Cond.code ({ cls := "HotEditionsModel", name := "moreMethods", desc := "(II)Z" } : MethodName) prog_14_method_28_code (5 : Nat) (Option.some FieldType.boolean)) ∈ pmWs := pmWs_4 (List.mem_of_getElem? (i := 60) rfl) rfl
theorem w_781 : (Jvm.Cond.methodLink "HotEditionsModel" (125 : Nat) ({ cls := "HotEditionsModel", name := "otherMethodFlags", desc := "(II)Z" } : MethodName)) ∈ pmWs := pmWs_4 (List.mem_of_getElem? (i := 61) rfl) rfl
theorem w_783 : (Jvm.Cond.instanceMethod ({ cls := "HotEditionsModel", name := "otherMethodFlags", desc := "(II)Z" } : MethodName)) ∈ pmWs := pmWs_4 (List.mem_of_getElem? (i := 63) rfl) rfl
theorem w_784 : (Jvm.Cond.code ({ cls := "HotEditionsModel", name := "otherMethodFlags", desc := "(II)Z" } : MethodName) prog_14_method_29_code (7 : Nat) (Option.some FieldType.boolean)) ∈ pmWs := pmWs_4 (List.mem_of_getElem? (i := 64) rfl) rfl
theorem w_785 : (Jvm.Cond.methodLink "HotEditionsLaw" (74 : Nat) ({ cls := "HotEditionsModel", name := "repeat", desc := "(I)I" } : MethodName)) ∈ pmWs := pmWs_4 (List.mem_of_getElem? (i := 65) rfl) rfl
theorem w_786 : (Jvm.Cond.instanceMethod ({ cls := "HotEditionsModel", name := "repeat", desc := "(I)I" } : MethodName)) ∈ pmWs := pmWs_4 (List.mem_of_getElem? (i := 66) rfl) rfl
theorem w_787 : (Jvm.Cond.selects "HotEditionsModel" ({ cls := "HotEditionsModel", name := "repeat", desc := "(I)I" } : MethodName) ({ cls := "HotEditionsModel", name := "repeat", desc := "(I)I" } : MethodName)) ∈ pmWs := pmWs_4 (List.mem_of_getElem? (i := 67) rfl) rfl
theorem w_788 : (Jvm.Cond.code ({ cls := "HotEditionsModel", name := "repeat", desc := "(I)I" } : MethodName) prog_14_method_37_code (3 : Nat) (Option.some FieldType.int)) ∈ pmWs := pmWs_4 (List.mem_of_getElem? (i := 68) rfl) rfl
theorem w_789 : (Jvm.Cond.methodLink "HotEditionsLaw" (78 : Nat) ({ cls := "HotEditionsModel", name := "start", desc := "(III)Z" } : MethodName)) ∈ pmWs := pmWs_4 (List.mem_of_getElem? (i := 69) rfl) rfl
theorem w_790 : (Jvm.Cond.instanceMethod ({ cls := "HotEditionsModel", name := "start", desc := "(III)Z" } : MethodName)) ∈ pmWs := pmWs_4 (List.mem_of_getElem? (i := 70) rfl) rfl
theorem w_791 : (Jvm.Cond.selects "HotEditionsModel" ({ cls := "HotEditionsModel", name := "start", desc := "(III)Z" } : MethodName) ({ cls := "HotEditionsModel", name := "start", desc := "(III)Z" } : MethodName)) ∈ pmWs := pmWs_4 (List.mem_of_getElem? (i := 71) rfl) rfl
theorem w_792 : (Jvm.Cond.code ({ cls := "HotEditionsModel", name := "start", desc := "(III)Z" } : MethodName) prog_14_method_40_code (4 : Nat) (Option.some FieldType.boolean)) ∈ pmWs := pmWs_4 (List.mem_of_getElem? (i := 72) rfl) rfl
theorem w_793 : (Jvm.Cond.methodLink "HotEditionsModel" (146 : Nat) ({ cls := "HotEditionsModel", name := "isThread", desc := "(I)Z" } : MethodName)) ∈ pmWs := pmWs_4 (List.mem_of_getElem? (i := 73) rfl) rfl
theorem w_794 : (Jvm.Cond.static ({ cls := "HotEditionsModel", name := "isThread", desc := "(I)Z" } : MethodName)) ∈ pmWs := pmWs_4 (List.mem_of_getElem? (i := 74) rfl) rfl
theorem w_795 : (Jvm.Cond.code ({ cls := "HotEditionsModel", name := "isThread", desc := "(I)Z" } : MethodName) prog_14_method_39_code (1 : Nat) (Option.some FieldType.boolean)) ∈ pmWs := pmWs_4 (List.mem_of_getElem? (i := 75) rfl) rfl
theorem w_796 : (Jvm.Cond.methodLink "HotEditionsModel" (149 : Nat) ({ cls := "HotEditionsModel", name := "push", desc := "(III)V" } : MethodName)) ∈ pmWs := pmWs_4 (List.mem_of_getElem? (i := 76) rfl) rfl
theorem w_798 : (Jvm.Cond.instanceMethod ({ cls := "HotEditionsModel", name := "push", desc := "(III)V" } : MethodName)) ∈ pmWs := pmWs_4 (List.mem_of_getElem? (i := 78) rfl) rfl
theorem w_799 : (Jvm.Cond.code ({ cls := "HotEditionsModel", name := "push", desc := "(III)V" } : MethodName) prog_14_method_38_code (5 : Nat) (Option.none : Option FieldType)) ∈ pmWs := pmWs_4 (List.mem_of_getElem? (i := 79) rfl) rfl
theorem w_800 : (Jvm.Cond.methodLink "HotEditionsLaw" (83 : Nat) ({ cls := "HotEditionsModel", name := "step", desc := "(II)I" } : MethodName)) ∈ pmWs := pmWs_4 (List.mem_of_getElem? (i := 80) rfl) rfl
theorem w_801 : (Jvm.Cond.instanceMethod ({ cls := "HotEditionsModel", name := "step", desc := "(II)I" } : MethodName)) ∈ pmWs := pmWs_4 (List.mem_of_getElem? (i := 81) rfl) rfl
theorem w_802 : (Jvm.Cond.selects "HotEditionsModel" ({ cls := "HotEditionsModel", name := "step", desc := "(II)I" } : MethodName) ({ cls := "HotEditionsModel", name := "step", desc := "(II)I" } : MethodName)) ∈ pmWs := pmWs_4 (List.mem_of_getElem? (i := 82) rfl) rfl
theorem w_803 : (Jvm.Cond.code ({ cls := "HotEditionsModel", name := "step", desc := "(II)I" } : MethodName) prog_14_method_42_code (4 : Nat) (Option.some FieldType.int)) ∈ pmWs := pmWs_4 (List.mem_of_getElem? (i := 83) rfl) rfl
theorem w_804 : (Jvm.Cond.methodLink "HotEditionsModel" (152 : Nat) ({ cls := "HotEditionsModel", name := "once", desc := "(I)V" } : MethodName)) ∈ pmWs := pmWs_4 (List.mem_of_getElem? (i := 84) rfl) rfl
theorem w_806 : (Jvm.Cond.instanceMethod ({ cls := "HotEditionsModel", name := "once", desc := "(I)V" } : MethodName)) ∈ pmWs := pmWs_4 (List.mem_of_getElem? (i := 86) rfl) rfl
theorem w_807 : (Jvm.Cond.code ({ cls := "HotEditionsModel", name := "once", desc := "(I)V" } : MethodName) prog_14_method_41_code (8 : Nat) (Option.none : Option FieldType)) ∈ pmWs := pmWs_4 (List.mem_of_getElem? (i := 87) rfl) rfl
theorem w_808 : (Jvm.Cond.methodLink "HotEditionsLaw" (87 : Nat) ({ cls := "HotEditionsModel", name := "frame", desc := "(II)I" } : MethodName)) ∈ pmWs := pmWs_4 (List.mem_of_getElem? (i := 88) rfl) rfl
theorem w_809 : (Jvm.Cond.instanceMethod ({ cls := "HotEditionsModel", name := "frame", desc := "(II)I" } : MethodName)) ∈ pmWs := pmWs_4 (List.mem_of_getElem? (i := 89) rfl) rfl
theorem w_810 : (Jvm.Cond.selects "HotEditionsModel" ({ cls := "HotEditionsModel", name := "frame", desc := "(II)I" } : MethodName) ({ cls := "HotEditionsModel", name := "frame", desc := "(II)I" } : MethodName)) ∈ pmWs := pmWs_4 (List.mem_of_getElem? (i := 90) rfl) rfl
theorem w_811 : (Jvm.Cond.code ({ cls := "HotEditionsModel", name := "frame", desc := "(II)I" } : MethodName) prog_14_method_43_code (4 : Nat) (Option.some FieldType.int)) ∈ pmWs := pmWs_4 (List.mem_of_getElem? (i := 91) rfl) rfl
theorem w_812 : (Jvm.Cond.methodLink "HotEditionsLaw" (91 : Nat) ({ cls := "HotEditionsModel", name := "result", desc := "(I)I" } : MethodName)) ∈ pmWs := pmWs_4 (List.mem_of_getElem? (i := 92) rfl) rfl
theorem w_813 : (Jvm.Cond.instanceMethod ({ cls := "HotEditionsModel", name := "result", desc := "(I)I" } : MethodName)) ∈ pmWs := pmWs_4 (List.mem_of_getElem? (i := 93) rfl) rfl
theorem w_814 : (Jvm.Cond.selects "HotEditionsModel" ({ cls := "HotEditionsModel", name := "result", desc := "(I)I" } : MethodName) ({ cls := "HotEditionsModel", name := "result", desc := "(I)I" } : MethodName)) ∈ pmWs := pmWs_4 (List.mem_of_getElem? (i := 94) rfl) rfl
theorem w_815 : (Jvm.Cond.code ({ cls := "HotEditionsModel", name := "result", desc := "(I)I" } : MethodName) prog_14_method_44_code (2 : Nat) (Option.some FieldType.int)) ∈ pmWs := pmWs_4 (List.mem_of_getElem? (i := 95) rfl) rfl
theorem w_816 : (Jvm.Cond.methodLink "HotEditionsLaw" (95 : Nat) ({ cls := "HotEditionsModel", name := "edition", desc := "(I)I" } : MethodName)) ∈ pmWs := pmWs_4 (List.mem_of_getElem? (i := 96) rfl) rfl
theorem w_817 : (Jvm.Cond.instanceMethod ({ cls := "HotEditionsModel", name := "edition", desc := "(I)I" } : MethodName)) ∈ pmWs := pmWs_4 (List.mem_of_getElem? (i := 97) rfl) rfl
theorem w_818 : (Jvm.Cond.selects "HotEditionsModel" ({ cls := "HotEditionsModel", name := "edition", desc := "(I)I" } : MethodName) ({ cls := "HotEditionsModel", name := "edition", desc := "(I)I" } : MethodName)) ∈ pmWs := pmWs_4 (List.mem_of_getElem? (i := 98) rfl) rfl
theorem w_819 : (Jvm.Cond.code ({ cls := "HotEditionsModel", name := "edition", desc := "(I)I" } : MethodName) prog_14_method_45_code (2 : Nat) (Option.some FieldType.int)) ∈ pmWs := pmWs_4 (List.mem_of_getElem? (i := 99) rfl) rfl
theorem w_820 : (Jvm.Cond.methodLink "HotEditionsLaw" (99 : Nat) ({ cls := "HotEditionsModel", name := "kept", desc := "(I)I" } : MethodName)) ∈ pmWs := pmWs_4 (List.mem_of_getElem? (i := 100) rfl) rfl
theorem w_821 : (Jvm.Cond.instanceMethod ({ cls := "HotEditionsModel", name := "kept", desc := "(I)I" } : MethodName)) ∈ pmWs := pmWs_4 (List.mem_of_getElem? (i := 101) rfl) rfl
theorem w_822 : (Jvm.Cond.selects "HotEditionsModel" ({ cls := "HotEditionsModel", name := "kept", desc := "(I)I" } : MethodName) ({ cls := "HotEditionsModel", name := "kept", desc := "(I)I" } : MethodName)) ∈ pmWs := pmWs_4 (List.mem_of_getElem? (i := 102) rfl) rfl
theorem w_823 : (Jvm.Cond.code ({ cls := "HotEditionsModel", name := "kept", desc := "(I)I" } : MethodName) prog_14_method_46_code (4 : Nat) (Option.some FieldType.int)) ∈ pmWs := pmWs_4 (List.mem_of_getElem? (i := 103) rfl) rfl
theorem ws_HE_isInBatch : Jvm.Cond.selects "HotEditions" ⟨"HotEditions", "isInBatch", "(I)Z"⟩ ⟨"HotEditions", "isInBatch", "(I)Z"⟩ ∈ pmWs := pmWs_s (List.mem_append_left _ (List.mem_of_getElem? (i := 0) rfl))
theorem ws_HE_firstBrokenOfBatch : Jvm.Cond.selects "HotEditions" ⟨"HotEditions", "firstBrokenOfBatch", "()I"⟩ ⟨"HotEditions", "firstBrokenOfBatch", "()I"⟩ ∈ pmWs := pmWs_s (List.mem_append_left _ (List.mem_of_getElem? (i := 1) rfl))
theorem ws_HE_installBatch : Jvm.Cond.selects "HotEditions" ⟨"HotEditions", "installBatch", "()V"⟩ ⟨"HotEditions", "installBatch", "()V"⟩ ∈ pmWs := pmWs_s (List.mem_append_left _ (List.mem_of_getElem? (i := 2) rfl))
theorem ws_Cl_leave : Jvm.Cond.selects "HotEditions$Calls" ⟨"HotEditions$Calls", "leave", "(I)V"⟩ ⟨"HotEditions$Calls", "leave", "(I)V"⟩ ∈ pmWs := pmWs_s (List.mem_append_left _ (List.mem_of_getElem? (i := 3) rfl))
theorem ws_HE_findFrame : Jvm.Cond.selects "HotEditions" ⟨"HotEditions", "findFrame", "(II)LHotEditions$Frame;"⟩ ⟨"HotEditions", "findFrame", "(II)LHotEditions$Frame;"⟩ ∈ pmWs := pmWs_s (List.mem_append_left _ (List.mem_of_getElem? (i := 4) rfl))
theorem ws_HE_isFirstOfItsEdition : Jvm.Cond.selects "HotEditions" ⟨"HotEditions", "isFirstOfItsEdition", "(IILHotEditions$Frame;)Z"⟩ ⟨"HotEditions", "isFirstOfItsEdition", "(IILHotEditions$Frame;)Z"⟩ ∈ pmWs := pmWs_s (List.mem_append_left _ (List.mem_of_getElem? (i := 5) rfl))
theorem ws_Mo_put : Jvm.Cond.selects "HotEditionsModel" ⟨"HotEditionsModel", "put", "(III)V"⟩ ⟨"HotEditionsModel", "put", "(III)V"⟩ ∈ pmWs := pmWs_s (List.mem_append_left _ (List.mem_of_getElem? (i := 6) rfl))
theorem ws_Mo_loaded : Jvm.Cond.selects "HotEditionsModel" ⟨"HotEditionsModel", "loaded", "(I)Z"⟩ ⟨"HotEditionsModel", "loaded", "(I)Z"⟩ ∈ pmWs := pmWs_s (List.mem_append_left _ (List.mem_of_getElem? (i := 7) rfl))
theorem ws_Mo_transcribe : Jvm.Cond.selects "HotEditionsModel" ⟨"HotEditionsModel", "transcribe", "(II)V"⟩ ⟨"HotEditionsModel", "transcribe", "(II)V"⟩ ∈ pmWs := pmWs_s (List.mem_append_left _ (List.mem_of_getElem? (i := 8) rfl))
theorem ws_Mo_get : Jvm.Cond.selects "HotEditionsModel" ⟨"HotEditionsModel", "get", "(II)I"⟩ ⟨"HotEditionsModel", "get", "(II)I"⟩ ∈ pmWs := pmWs_s (List.mem_append_left _ (List.mem_of_getElem? (i := 9) rfl))
theorem ws_Mo_treat : Jvm.Cond.selects "HotEditionsModel" ⟨"HotEditionsModel", "treat", "(III)V"⟩ ⟨"HotEditionsModel", "treat", "(III)V"⟩ ∈ pmWs := pmWs_s (List.mem_append_left _ (List.mem_of_getElem? (i := 10) rfl))
theorem ws_Mo_changes : Jvm.Cond.selects "HotEditionsModel" ⟨"HotEditionsModel", "changes", "(IIZ)V"⟩ ⟨"HotEditionsModel", "changes", "(IIZ)V"⟩ ∈ pmWs := pmWs_s (List.mem_append_left _ (List.mem_of_getElem? (i := 11) rfl))
theorem ws_Mo_change : Jvm.Cond.selects "HotEditionsModel" ⟨"HotEditionsModel", "change", "(II)V"⟩ ⟨"HotEditionsModel", "change", "(II)V"⟩ ∈ pmWs := pmWs_s (List.mem_append_left _ (List.mem_of_getElem? (i := 12) rfl))
theorem ws_Mo_find : Jvm.Cond.selects "HotEditionsModel" ⟨"HotEditionsModel", "find", "(II)I"⟩ ⟨"HotEditionsModel", "find", "(II)I"⟩ ∈ pmWs := pmWs_s (List.mem_append_left _ (List.mem_of_getElem? (i := 13) rfl))
theorem ws_Mo_plainRules : Jvm.Cond.selects "HotEditionsModel" ⟨"HotEditionsModel", "plainRules", "(I)I"⟩ ⟨"HotEditionsModel", "plainRules", "(I)I"⟩ ∈ pmWs := pmWs_s (List.mem_append_left _ (List.mem_of_getElem? (i := 14) rfl))
theorem ws_Mo_twice : Jvm.Cond.selects "HotEditionsModel" ⟨"HotEditionsModel", "twice", "(IIII)Z"⟩ ⟨"HotEditionsModel", "twice", "(IIII)Z"⟩ ∈ pmWs := pmWs_s (List.mem_append_left _ (List.mem_of_getElem? (i := 15) rfl))
theorem ws_Mo_strangeOp : Jvm.Cond.selects "HotEditionsModel" ⟨"HotEditionsModel", "strangeOp", "(I)Z"⟩ ⟨"HotEditionsModel", "strangeOp", "(I)Z"⟩ ∈ pmWs := pmWs_s (List.mem_append_right _ (List.mem_of_getElem? (i := 0) rfl))
theorem ws_Mo_circle : Jvm.Cond.selects "HotEditionsModel" ⟨"HotEditionsModel", "circle", "(I)Z"⟩ ⟨"HotEditionsModel", "circle", "(I)Z"⟩ ∈ pmWs := pmWs_s (List.mem_append_right _ (List.mem_of_getElem? (i := 1) rfl))
theorem ws_Mo_callsNothing : Jvm.Cond.selects "HotEditionsModel" ⟨"HotEditionsModel", "callsNothing", "(I)Z"⟩ ⟨"HotEditionsModel", "callsNothing", "(I)Z"⟩ ∈ pmWs := pmWs_s (List.mem_append_right _ (List.mem_of_getElem? (i := 2) rfl))
theorem ws_Mo_renew : Jvm.Cond.selects "HotEditionsModel" ⟨"HotEditionsModel", "renew", "(II)V"⟩ ⟨"HotEditionsModel", "renew", "(II)V"⟩ ∈ pmWs := pmWs_s (List.mem_append_right _ (List.mem_of_getElem? (i := 3) rfl))
theorem ws_Mo_inUse : Jvm.Cond.selects "HotEditionsModel" ⟨"HotEditionsModel", "inUse", "(I)Z"⟩ ⟨"HotEditionsModel", "inUse", "(I)Z"⟩ ∈ pmWs := pmWs_s (List.mem_append_right _ (List.mem_of_getElem? (i := 4) rfl))
theorem ws_Mo_inFrames : Jvm.Cond.selects "HotEditionsModel" ⟨"HotEditionsModel", "inFrames", "(I)Z"⟩ ⟨"HotEditionsModel", "inFrames", "(I)Z"⟩ ∈ pmWs := pmWs_s (List.mem_append_right _ (List.mem_of_getElem? (i := 5) rfl))
theorem ws_Mo_rules : Jvm.Cond.selects "HotEditionsModel" ⟨"HotEditionsModel", "rules", "(II)I"⟩ ⟨"HotEditionsModel", "rules", "(II)I"⟩ ∈ pmWs := pmWs_s (List.mem_append_right _ (List.mem_of_getElem? (i := 6) rfl))
theorem ws_Mo_otherInterfaces : Jvm.Cond.selects "HotEditionsModel" ⟨"HotEditionsModel", "otherInterfaces", "(II)Z"⟩ ⟨"HotEditionsModel", "otherInterfaces", "(II)Z"⟩ ∈ pmWs := pmWs_s (List.mem_append_right _ (List.mem_of_getElem? (i := 7) rfl))
theorem ws_Mo_otherFields : Jvm.Cond.selects "HotEditionsModel" ⟨"HotEditionsModel", "otherFields", "(II)Z"⟩ ⟨"HotEditionsModel", "otherFields", "(II)Z"⟩ ∈ pmWs := pmWs_s (List.mem_append_right _ (List.mem_of_getElem? (i := 8) rfl))
theorem ws_Mo_moreMethods : Jvm.Cond.selects "HotEditionsModel" ⟨"HotEditionsModel", "moreMethods", "(II)Z"⟩ ⟨"HotEditionsModel", "moreMethods", "(II)Z"⟩ ∈ pmWs := pmWs_s (List.mem_append_right _ (List.mem_of_getElem? (i := 9) rfl))
theorem ws_Mo_otherMethodFlags : Jvm.Cond.selects "HotEditionsModel" ⟨"HotEditionsModel", "otherMethodFlags", "(II)Z"⟩ ⟨"HotEditionsModel", "otherMethodFlags", "(II)Z"⟩ ∈ pmWs := pmWs_s (List.mem_append_right _ (List.mem_of_getElem? (i := 10) rfl))
theorem ws_Mo_push : Jvm.Cond.selects "HotEditionsModel" ⟨"HotEditionsModel", "push", "(III)V"⟩ ⟨"HotEditionsModel", "push", "(III)V"⟩ ∈ pmWs := pmWs_s (List.mem_append_right _ (List.mem_of_getElem? (i := 11) rfl))
theorem ws_Mo_once : Jvm.Cond.selects "HotEditionsModel" ⟨"HotEditionsModel", "once", "(I)V"⟩ ⟨"HotEditionsModel", "once", "(I)V"⟩ ∈ pmWs := pmWs_s (List.mem_append_right _ (List.mem_of_getElem? (i := 12) rfl))
end
section
/-! Decode rows of the class. -/
theorem d_HE_init_0 : decode prog_1_method_1_code 0 = .ok (.aload_n 0, 1) := by decide +kernel
theorem d_HE_init_1 : decode prog_1_method_1_code 1 = .ok (.invokespecial 1, 3) := by decide +kernel
theorem d_HE_init_4 : decode prog_1_method_1_code 4 = .ok (.aload_n 0, 1) := by decide +kernel
theorem d_HE_init_5 : decode prog_1_method_1_code 5 = .ok (.new 7, 3) := by decide +kernel
theorem d_HE_init_8 : decode prog_1_method_1_code 8 = .ok (.dup, 1) := by decide +kernel
theorem d_HE_init_9 : decode prog_1_method_1_code 9 = .ok (.invokespecial 9, 3) := by decide +kernel
theorem d_HE_init_12 : decode prog_1_method_1_code 12 = .ok (.putfield 10, 3) := by decide +kernel
theorem d_HE_init_15 : decode prog_1_method_1_code 15 = .ok (.aload_n 0, 1) := by decide +kernel
theorem d_HE_init_16 : decode prog_1_method_1_code 16 = .ok (.iconst (-1), 1) := by decide +kernel
theorem d_HE_init_17 : decode prog_1_method_1_code 17 = .ok (.putfield 16, 3) := by decide +kernel
theorem d_HE_init_20 : decode prog_1_method_1_code 20 = .ok (.aload_n 0, 1) := by decide +kernel
theorem d_HE_init_21 : decode prog_1_method_1_code 21 = .ok (.new 20, 3) := by decide +kernel
theorem d_HE_init_24 : decode prog_1_method_1_code 24 = .ok (.dup, 1) := by decide +kernel
theorem d_HE_init_25 : decode prog_1_method_1_code 25 = .ok (.invokespecial 22, 3) := by decide +kernel
theorem d_HE_init_28 : decode prog_1_method_1_code 28 = .ok (.putfield 23, 3) := by decide +kernel
theorem d_HE_init_31 : decode prog_1_method_1_code 31 = .ok (.aload_n 0, 1) := by decide +kernel
theorem d_HE_init_32 : decode prog_1_method_1_code 32 = .ok (.new 27, 3) := by decide +kernel
theorem d_HE_init_35 : decode prog_1_method_1_code 35 = .ok (.dup, 1) := by decide +kernel
theorem d_HE_init_36 : decode prog_1_method_1_code 36 = .ok (.invokespecial 29, 3) := by decide +kernel
theorem d_HE_init_39 : decode prog_1_method_1_code 39 = .ok (.putfield 30, 3) := by decide +kernel
theorem d_HE_init_42 : decode prog_1_method_1_code 42 = .ok (.aload_n 0, 1) := by decide +kernel
theorem d_HE_init_43 : decode prog_1_method_1_code 43 = .ok (.iconst 3, 1) := by decide +kernel
theorem d_HE_init_44 : decode prog_1_method_1_code 44 = .ok (.anewarray 34, 3) := by decide +kernel
theorem d_HE_init_47 : decode prog_1_method_1_code 47 = .ok (.putfield 36, 3) := by decide +kernel
theorem d_HE_init_50 : decode prog_1_method_1_code 50 = .ok (.aload_n 0, 1) := by decide +kernel
theorem d_HE_init_51 : decode prog_1_method_1_code 51 = .ok (.iconst 0, 1) := by decide +kernel
theorem d_HE_init_52 : decode prog_1_method_1_code 52 = .ok (.putfield 40, 3) := by decide +kernel
theorem d_HE_init_55 : decode prog_1_method_1_code 55 = .ok (.aload_n 0, 1) := by decide +kernel
theorem d_HE_init_56 : decode prog_1_method_1_code 56 = .ok (.new 34, 3) := by decide +kernel
theorem d_HE_init_59 : decode prog_1_method_1_code 59 = .ok (.dup, 1) := by decide +kernel
theorem d_HE_init_60 : decode prog_1_method_1_code 60 = .ok (.invokespecial 43, 3) := by decide +kernel
theorem d_HE_init_63 : decode prog_1_method_1_code 63 = .ok (.putfield 44, 3) := by decide +kernel
theorem d_HE_init_66 : decode prog_1_method_1_code 66 = .ok (.aload_n 0, 1) := by decide +kernel
theorem d_HE_init_67 : decode prog_1_method_1_code 67 = .ok (.iconst 3, 1) := by decide +kernel
theorem d_HE_init_68 : decode prog_1_method_1_code 68 = .ok (.anewarray 48, 3) := by decide +kernel
theorem d_HE_init_71 : decode prog_1_method_1_code 71 = .ok (.putfield 50, 3) := by decide +kernel
theorem d_HE_init_74 : decode prog_1_method_1_code 74 = .ok (.iconst 0, 1) := by decide +kernel
theorem d_HE_init_75 : decode prog_1_method_1_code 75 = .ok (.istore_n 1, 1) := by decide +kernel
theorem d_HE_init_76 : decode prog_1_method_1_code 76 = .ok (.iload_n 1, 1) := by decide +kernel
theorem d_HE_init_77 : decode prog_1_method_1_code 77 = .ok (.iconst 3, 1) := by decide +kernel
theorem d_HE_init_78 : decode prog_1_method_1_code 78 = .ok (.if_icmp .ge 22, 3) := by decide +kernel
theorem d_HE_init_81 : decode prog_1_method_1_code 81 = .ok (.aload_n 0, 1) := by decide +kernel
theorem d_HE_init_82 : decode prog_1_method_1_code 82 = .ok (.getfield 36, 3) := by decide +kernel
theorem d_HE_init_85 : decode prog_1_method_1_code 85 = .ok (.iload_n 1, 1) := by decide +kernel
theorem d_HE_init_86 : decode prog_1_method_1_code 86 = .ok (.new 34, 3) := by decide +kernel
theorem d_HE_init_89 : decode prog_1_method_1_code 89 = .ok (.dup, 1) := by decide +kernel
theorem d_HE_init_90 : decode prog_1_method_1_code 90 = .ok (.invokespecial 43, 3) := by decide +kernel
theorem d_HE_init_93 : decode prog_1_method_1_code 93 = .ok (.aastore, 1) := by decide +kernel
theorem d_HE_init_94 : decode prog_1_method_1_code 94 = .ok (.iinc 1 1, 3) := by decide +kernel
theorem d_HE_init_97 : decode prog_1_method_1_code 97 = .ok (.goto (-21), 3) := by decide +kernel
theorem d_HE_init_100 : decode prog_1_method_1_code 100 = .ok (.iconst 0, 1) := by decide +kernel
theorem d_HE_init_101 : decode prog_1_method_1_code 101 = .ok (.istore_n 1, 1) := by decide +kernel
theorem d_HE_init_102 : decode prog_1_method_1_code 102 = .ok (.iload_n 1, 1) := by decide +kernel
theorem d_HE_init_103 : decode prog_1_method_1_code 103 = .ok (.iconst 3, 1) := by decide +kernel
theorem d_HE_init_104 : decode prog_1_method_1_code 104 = .ok (.if_icmp .ge 22, 3) := by decide +kernel
theorem d_HE_init_107 : decode prog_1_method_1_code 107 = .ok (.aload_n 0, 1) := by decide +kernel
theorem d_HE_init_108 : decode prog_1_method_1_code 108 = .ok (.getfield 50, 3) := by decide +kernel
theorem d_HE_init_111 : decode prog_1_method_1_code 111 = .ok (.iload_n 1, 1) := by decide +kernel
theorem d_HE_init_112 : decode prog_1_method_1_code 112 = .ok (.new 48, 3) := by decide +kernel
theorem d_HE_init_115 : decode prog_1_method_1_code 115 = .ok (.dup, 1) := by decide +kernel
theorem d_HE_init_116 : decode prog_1_method_1_code 116 = .ok (.invokespecial 54, 3) := by decide +kernel
theorem d_HE_init_119 : decode prog_1_method_1_code 119 = .ok (.aastore, 1) := by decide +kernel
theorem d_HE_init_120 : decode prog_1_method_1_code 120 = .ok (.iinc 1 1, 3) := by decide +kernel
theorem d_HE_init_123 : decode prog_1_method_1_code 123 = .ok (.goto (-21), 3) := by decide +kernel
theorem d_HE_init_126 : decode prog_1_method_1_code 126 = .ok (.return_, 1) := by decide +kernel
theorem d_HE_blank_0 : decode prog_1_method_2_code 0 = .ok (.aload_n 0, 1) := by decide +kernel
theorem d_HE_blank_1 : decode prog_1_method_2_code 1 = .ok (.getfield 10, 3) := by decide +kernel
theorem d_HE_blank_4 : decode prog_1_method_2_code 4 = .ok (.invokevirtual 55, 3) := by decide +kernel
theorem d_HE_blank_7 : decode prog_1_method_2_code 7 = .ok (.aload_n 0, 1) := by decide +kernel
theorem d_HE_blank_8 : decode prog_1_method_2_code 8 = .ok (.iconst (-1), 1) := by decide +kernel
theorem d_HE_blank_9 : decode prog_1_method_2_code 9 = .ok (.putfield 16, 3) := by decide +kernel
theorem d_HE_blank_12 : decode prog_1_method_2_code 12 = .ok (.return_, 1) := by decide +kernel
theorem d_HE_copy_0 : decode prog_1_method_3_code 0 = .ok (.aload_n 0, 1) := by decide +kernel
theorem d_HE_copy_1 : decode prog_1_method_3_code 1 = .ok (.getfield 23, 3) := by decide +kernel
theorem d_HE_copy_4 : decode prog_1_method_3_code 4 = .ok (.iload_n 1, 1) := by decide +kernel
theorem d_HE_copy_5 : decode prog_1_method_3_code 5 = .ok (.invokevirtual 58, 3) := by decide +kernel
theorem d_HE_copy_8 : decode prog_1_method_3_code 8 = .ok (.astore_n 2, 1) := by decide +kernel
theorem d_HE_copy_9 : decode prog_1_method_3_code 9 = .ok (.aload_n 2, 1) := by decide +kernel
theorem d_HE_copy_10 : decode prog_1_method_3_code 10 = .ok (.ifnonnull 5, 3) := by decide +kernel
theorem d_HE_copy_13 : decode prog_1_method_3_code 13 = .ok (.iconst 0, 1) := by decide +kernel
theorem d_HE_copy_14 : decode prog_1_method_3_code 14 = .ok (.ireturn, 1) := by decide +kernel
theorem d_HE_copy_15 : decode prog_1_method_3_code 15 = .ok (.aload_n 0, 1) := by decide +kernel
theorem d_HE_copy_16 : decode prog_1_method_3_code 16 = .ok (.getfield 10, 3) := by decide +kernel
theorem d_HE_copy_19 : decode prog_1_method_3_code 19 = .ok (.aload_n 2, 1) := by decide +kernel
theorem d_HE_copy_20 : decode prog_1_method_3_code 20 = .ok (.getfield 62, 3) := by decide +kernel
theorem d_HE_copy_23 : decode prog_1_method_3_code 23 = .ok (.invokevirtual 67, 3) := by decide +kernel
theorem d_HE_copy_26 : decode prog_1_method_3_code 26 = .ok (.aload_n 0, 1) := by decide +kernel
theorem d_HE_copy_27 : decode prog_1_method_3_code 27 = .ok (.iconst (-1), 1) := by decide +kernel
theorem d_HE_copy_28 : decode prog_1_method_3_code 28 = .ok (.putfield 16, 3) := by decide +kernel
theorem d_HE_copy_31 : decode prog_1_method_3_code 31 = .ok (.iconst 1, 1) := by decide +kernel
theorem d_HE_copy_32 : decode prog_1_method_3_code 32 = .ok (.ireturn, 1) := by decide +kernel
theorem d_HE_set_0 : decode prog_1_method_4_code 0 = .ok (.iload_n 1, 1) := by decide +kernel
theorem d_HE_set_1 : decode prog_1_method_4_code 1 = .ok (.ifCond .lt 8, 3) := by decide +kernel
theorem d_HE_set_4 : decode prog_1_method_4_code 4 = .ok (.iload_n 1, 1) := by decide +kernel
theorem d_HE_set_5 : decode prog_1_method_4_code 5 = .ok (.iconst 5, 1) := by decide +kernel
theorem d_HE_set_6 : decode prog_1_method_4_code 6 = .ok (.if_icmp .lt 5, 3) := by decide +kernel
theorem d_HE_set_9 : decode prog_1_method_4_code 9 = .ok (.iconst 0, 1) := by decide +kernel
theorem d_HE_set_10 : decode prog_1_method_4_code 10 = .ok (.ireturn, 1) := by decide +kernel
theorem d_HE_set_11 : decode prog_1_method_4_code 11 = .ok (.aload_n 0, 1) := by decide +kernel
theorem d_HE_set_12 : decode prog_1_method_4_code 12 = .ok (.getfield 10, 3) := by decide +kernel
theorem d_HE_set_15 : decode prog_1_method_4_code 15 = .ok (.getfield 71, 3) := by decide +kernel
theorem d_HE_set_18 : decode prog_1_method_4_code 18 = .ok (.iload_n 1, 1) := by decide +kernel
theorem d_HE_set_19 : decode prog_1_method_4_code 19 = .ok (.iload_n 2, 1) := by decide +kernel
theorem d_HE_set_20 : decode prog_1_method_4_code 20 = .ok (.iastore, 1) := by decide +kernel
theorem d_HE_set_21 : decode prog_1_method_4_code 21 = .ok (.iconst 1, 1) := by decide +kernel
theorem d_HE_set_22 : decode prog_1_method_4_code 22 = .ok (.ireturn, 1) := by decide +kernel
theorem d_HE_implement_0 : decode prog_1_method_5_code 0 = .ok (.aload_n 0, 1) := by decide +kernel
theorem d_HE_implement_1 : decode prog_1_method_5_code 1 = .ok (.getfield 10, 3) := by decide +kernel
theorem d_HE_implement_4 : decode prog_1_method_5_code 4 = .ok (.iload_n 1, 1) := by decide +kernel
theorem d_HE_implement_5 : decode prog_1_method_5_code 5 = .ok (.invokevirtual 75, 3) := by decide +kernel
theorem d_HE_implement_8 : decode prog_1_method_5_code 8 = .ok (.ireturn, 1) := by decide +kernel
theorem d_HE_field_0 : decode prog_1_method_6_code 0 = .ok (.aload_n 0, 1) := by decide +kernel
theorem d_HE_field_1 : decode prog_1_method_6_code 1 = .ok (.getfield 10, 3) := by decide +kernel
theorem d_HE_field_4 : decode prog_1_method_6_code 4 = .ok (.iload_n 1, 1) := by decide +kernel
theorem d_HE_field_5 : decode prog_1_method_6_code 5 = .ok (.iload_n 2, 1) := by decide +kernel
theorem d_HE_field_6 : decode prog_1_method_6_code 6 = .ok (.iload_n 3, 1) := by decide +kernel
theorem d_HE_field_7 : decode prog_1_method_6_code 7 = .ok (.invokevirtual 79, 3) := by decide +kernel
theorem d_HE_field_10 : decode prog_1_method_6_code 10 = .ok (.ireturn, 1) := by decide +kernel
theorem d_HE_method_0 : decode prog_1_method_7_code 0 = .ok (.aload_n 0, 1) := by decide +kernel
theorem d_HE_method_1 : decode prog_1_method_7_code 1 = .ok (.getfield 10, 3) := by decide +kernel
theorem d_HE_method_4 : decode prog_1_method_7_code 4 = .ok (.iload_n 1, 1) := by decide +kernel
theorem d_HE_method_5 : decode prog_1_method_7_code 5 = .ok (.iload_n 2, 1) := by decide +kernel
theorem d_HE_method_6 : decode prog_1_method_7_code 6 = .ok (.invokevirtual 83, 3) := by decide +kernel
theorem d_HE_method_9 : decode prog_1_method_7_code 9 = .ok (.ifCond .ne 5, 3) := by decide +kernel
theorem d_HE_method_12 : decode prog_1_method_7_code 12 = .ok (.iconst 0, 1) := by decide +kernel
theorem d_HE_method_13 : decode prog_1_method_7_code 13 = .ok (.ireturn, 1) := by decide +kernel
theorem d_HE_method_14 : decode prog_1_method_7_code 14 = .ok (.aload_n 0, 1) := by decide +kernel
theorem d_HE_method_15 : decode prog_1_method_7_code 15 = .ok (.aload_n 0, 1) := by decide +kernel
theorem d_HE_method_16 : decode prog_1_method_7_code 16 = .ok (.getfield 10, 3) := by decide +kernel
theorem d_HE_method_19 : decode prog_1_method_7_code 19 = .ok (.getfield 87, 3) := by decide +kernel
theorem d_HE_method_22 : decode prog_1_method_7_code 22 = .ok (.iconst 1, 1) := by decide +kernel
theorem d_HE_method_23 : decode prog_1_method_7_code 23 = .ok (.isub, 1) := by decide +kernel
theorem d_HE_method_24 : decode prog_1_method_7_code 24 = .ok (.putfield 16, 3) := by decide +kernel
theorem d_HE_method_27 : decode prog_1_method_7_code 27 = .ok (.iconst 1, 1) := by decide +kernel
theorem d_HE_method_28 : decode prog_1_method_7_code 28 = .ok (.ireturn, 1) := by decide +kernel
theorem d_HE_choose_0 : decode prog_1_method_8_code 0 = .ok (.iload_n 1, 1) := by decide +kernel
theorem d_HE_choose_1 : decode prog_1_method_8_code 1 = .ok (.ifCond .lt 14, 3) := by decide +kernel
theorem d_HE_choose_4 : decode prog_1_method_8_code 4 = .ok (.iload_n 1, 1) := by decide +kernel
theorem d_HE_choose_5 : decode prog_1_method_8_code 5 = .ok (.aload_n 0, 1) := by decide +kernel
theorem d_HE_choose_6 : decode prog_1_method_8_code 6 = .ok (.getfield 10, 3) := by decide +kernel
theorem d_HE_choose_9 : decode prog_1_method_8_code 9 = .ok (.getfield 87, 3) := by decide +kernel
theorem d_HE_choose_12 : decode prog_1_method_8_code 12 = .ok (.if_icmp .lt 5, 3) := by decide +kernel
theorem d_HE_choose_15 : decode prog_1_method_8_code 15 = .ok (.iconst 0, 1) := by decide +kernel
theorem d_HE_choose_16 : decode prog_1_method_8_code 16 = .ok (.ireturn, 1) := by decide +kernel
theorem d_HE_choose_17 : decode prog_1_method_8_code 17 = .ok (.aload_n 0, 1) := by decide +kernel
theorem d_HE_choose_18 : decode prog_1_method_8_code 18 = .ok (.iload_n 1, 1) := by decide +kernel
theorem d_HE_choose_19 : decode prog_1_method_8_code 19 = .ok (.putfield 16, 3) := by decide +kernel
theorem d_HE_choose_22 : decode prog_1_method_8_code 22 = .ok (.aload_n 0, 1) := by decide +kernel
theorem d_HE_choose_23 : decode prog_1_method_8_code 23 = .ok (.getfield 10, 3) := by decide +kernel
theorem d_HE_choose_26 : decode prog_1_method_8_code 26 = .ok (.getfield 90, 3) := by decide +kernel
theorem d_HE_choose_29 : decode prog_1_method_8_code 29 = .ok (.iload_n 1, 1) := by decide +kernel
theorem d_HE_choose_30 : decode prog_1_method_8_code 30 = .ok (.aaload, 1) := by decide +kernel
theorem d_HE_choose_31 : decode prog_1_method_8_code 31 = .ok (.getfield 94, 3) := by decide +kernel
theorem d_HE_choose_34 : decode prog_1_method_8_code 34 = .ok (.invokevirtual 100, 3) := by decide +kernel
theorem d_HE_choose_37 : decode prog_1_method_8_code 37 = .ok (.iconst 1, 1) := by decide +kernel
theorem d_HE_choose_38 : decode prog_1_method_8_code 38 = .ok (.ireturn, 1) := by decide +kernel
theorem d_HE_code_0 : decode prog_1_method_9_code 0 = .ok (.aload_n 0, 1) := by decide +kernel
theorem d_HE_code_1 : decode prog_1_method_9_code 1 = .ok (.getfield 16, 3) := by decide +kernel
theorem d_HE_code_4 : decode prog_1_method_9_code 4 = .ok (.iconst (-1), 1) := by decide +kernel
theorem d_HE_code_5 : decode prog_1_method_9_code 5 = .ok (.if_icmp .ne 5, 3) := by decide +kernel
theorem d_HE_code_8 : decode prog_1_method_9_code 8 = .ok (.iconst 0, 1) := by decide +kernel
theorem d_HE_code_9 : decode prog_1_method_9_code 9 = .ok (.ireturn, 1) := by decide +kernel
theorem d_HE_code_10 : decode prog_1_method_9_code 10 = .ok (.aload_n 0, 1) := by decide +kernel
theorem d_HE_code_11 : decode prog_1_method_9_code 11 = .ok (.getfield 10, 3) := by decide +kernel
theorem d_HE_code_14 : decode prog_1_method_9_code 14 = .ok (.getfield 90, 3) := by decide +kernel
theorem d_HE_code_17 : decode prog_1_method_9_code 17 = .ok (.aload_n 0, 1) := by decide +kernel
theorem d_HE_code_18 : decode prog_1_method_9_code 18 = .ok (.getfield 16, 3) := by decide +kernel
theorem d_HE_code_21 : decode prog_1_method_9_code 21 = .ok (.aaload, 1) := by decide +kernel
theorem d_HE_code_22 : decode prog_1_method_9_code 22 = .ok (.getfield 94, 3) := by decide +kernel
theorem d_HE_code_25 : decode prog_1_method_9_code 25 = .ok (.iload_n 1, 1) := by decide +kernel
theorem d_HE_code_26 : decode prog_1_method_9_code 26 = .ok (.iload_n 2, 1) := by decide +kernel
theorem d_HE_code_27 : decode prog_1_method_9_code 27 = .ok (.iload_n 3, 1) := by decide +kernel
theorem d_HE_code_28 : decode prog_1_method_9_code 28 = .ok (.invokevirtual 103, 3) := by decide +kernel
theorem d_HE_code_31 : decode prog_1_method_9_code 31 = .ok (.ireturn, 1) := by decide +kernel
theorem d_HE_load_0 : decode prog_1_method_10_code 0 = .ok (.aload_n 0, 1) := by decide +kernel
theorem d_HE_load_1 : decode prog_1_method_10_code 1 = .ok (.getfield 10, 3) := by decide +kernel
theorem d_HE_load_4 : decode prog_1_method_10_code 4 = .ok (.getfield 71, 3) := by decide +kernel
theorem d_HE_load_7 : decode prog_1_method_10_code 7 = .ok (.iconst 1, 1) := by decide +kernel
theorem d_HE_load_8 : decode prog_1_method_10_code 8 = .ok (.iaload, 1) := by decide +kernel
theorem d_HE_load_9 : decode prog_1_method_10_code 9 = .ok (.istore_n 1, 1) := by decide +kernel
theorem d_HE_load_10 : decode prog_1_method_10_code 10 = .ok (.aload_n 0, 1) := by decide +kernel
theorem d_HE_load_11 : decode prog_1_method_10_code 11 = .ok (.getfield 44, 3) := by decide +kernel
theorem d_HE_load_14 : decode prog_1_method_10_code 14 = .ok (.aload_n 0, 1) := by decide +kernel
theorem d_HE_load_15 : decode prog_1_method_10_code 15 = .ok (.getfield 10, 3) := by decide +kernel
theorem d_HE_load_18 : decode prog_1_method_10_code 18 = .ok (.iload_n 1, 1) := by decide +kernel
theorem d_HE_load_19 : decode prog_1_method_10_code 19 = .ok (.invokevirtual 106, 3) := by decide +kernel
theorem d_HE_load_22 : decode prog_1_method_10_code 22 = .ok (.aload_n 0, 1) := by decide +kernel
theorem d_HE_load_23 : decode prog_1_method_10_code 23 = .ok (.getfield 30, 3) := by decide +kernel
theorem d_HE_load_26 : decode prog_1_method_10_code 26 = .ok (.aload_n 0, 1) := by decide +kernel
theorem d_HE_load_27 : decode prog_1_method_10_code 27 = .ok (.getfield 44, 3) := by decide +kernel
theorem d_HE_load_30 : decode prog_1_method_10_code 30 = .ok (.invokevirtual 110, 3) := by decide +kernel
theorem d_HE_load_33 : decode prog_1_method_10_code 33 = .ok (.aload_n 0, 1) := by decide +kernel
theorem d_HE_load_34 : decode prog_1_method_10_code 34 = .ok (.getfield 44, 3) := by decide +kernel
theorem d_HE_load_37 : decode prog_1_method_10_code 37 = .ok (.getfield 114, 3) := by decide +kernel
theorem d_HE_load_40 : decode prog_1_method_10_code 40 = .ok (.aload_n 0, 1) := by decide +kernel
theorem d_HE_load_41 : decode prog_1_method_10_code 41 = .ok (.getfield 23, 3) := by decide +kernel
theorem d_HE_load_44 : decode prog_1_method_10_code 44 = .ok (.invokestatic 117, 3) := by decide +kernel
theorem d_HE_load_47 : decode prog_1_method_10_code 47 = .ok (.istore_n 2, 1) := by decide +kernel
theorem d_HE_load_48 : decode prog_1_method_10_code 48 = .ok (.iload_n 2, 1) := by decide +kernel
theorem d_HE_load_49 : decode prog_1_method_10_code 49 = .ok (.ifCond .eq 5, 3) := by decide +kernel
theorem d_HE_load_52 : decode prog_1_method_10_code 52 = .ok (.iload_n 2, 1) := by decide +kernel
theorem d_HE_load_53 : decode prog_1_method_10_code 53 = .ok (.ireturn, 1) := by decide +kernel
theorem d_HE_load_54 : decode prog_1_method_10_code 54 = .ok (.iload_n 1, 1) := by decide +kernel
theorem d_HE_load_55 : decode prog_1_method_10_code 55 = .ok (.invokestatic 123, 3) := by decide +kernel
theorem d_HE_load_58 : decode prog_1_method_10_code 58 = .ok (.ifCond .ne 5, 3) := by decide +kernel
theorem d_HE_load_61 : decode prog_1_method_10_code 61 = .ok (.iconst 5, 1) := by decide +kernel
theorem d_HE_load_62 : decode prog_1_method_10_code 62 = .ok (.ireturn, 1) := by decide +kernel
theorem d_HE_load_63 : decode prog_1_method_10_code 63 = .ok (.aload_n 0, 1) := by decide +kernel
theorem d_HE_load_64 : decode prog_1_method_10_code 64 = .ok (.getfield 23, 3) := by decide +kernel
theorem d_HE_load_67 : decode prog_1_method_10_code 67 = .ok (.iload_n 1, 1) := by decide +kernel
theorem d_HE_load_68 : decode prog_1_method_10_code 68 = .ok (.invokevirtual 58, 3) := by decide +kernel
theorem d_HE_load_71 : decode prog_1_method_10_code 71 = .ok (.ifnull 6, 3) := by decide +kernel
theorem d_HE_load_74 : decode prog_1_method_10_code 74 = .ok (.bipush 13, 2) := by decide +kernel
theorem d_HE_load_76 : decode prog_1_method_10_code 76 = .ok (.ireturn, 1) := by decide +kernel
theorem d_HE_load_77 : decode prog_1_method_10_code 77 = .ok (.aload_n 0, 1) := by decide +kernel
theorem d_HE_load_78 : decode prog_1_method_10_code 78 = .ok (.getfield 23, 3) := by decide +kernel
theorem d_HE_load_81 : decode prog_1_method_10_code 81 = .ok (.iload_n 1, 1) := by decide +kernel
theorem d_HE_load_82 : decode prog_1_method_10_code 82 = .ok (.aload_n 0, 1) := by decide +kernel
theorem d_HE_load_83 : decode prog_1_method_10_code 83 = .ok (.getfield 44, 3) := by decide +kernel
theorem d_HE_load_86 : decode prog_1_method_10_code 86 = .ok (.invokevirtual 126, 3) := by decide +kernel
theorem d_HE_load_89 : decode prog_1_method_10_code 89 = .ok (.iconst 0, 1) := by decide +kernel
theorem d_HE_load_90 : decode prog_1_method_10_code 90 = .ok (.ireturn, 1) := by decide +kernel
theorem d_HE_transformer_0 : decode prog_1_method_11_code 0 = .ok (.aload_n 0, 1) := by decide +kernel
theorem d_HE_transformer_1 : decode prog_1_method_11_code 1 = .ok (.getfield 30, 3) := by decide +kernel
theorem d_HE_transformer_4 : decode prog_1_method_11_code 4 = .ok (.iload_n 1, 1) := by decide +kernel
theorem d_HE_transformer_5 : decode prog_1_method_11_code 5 = .ok (.iload_n 2, 1) := by decide +kernel
theorem d_HE_transformer_6 : decode prog_1_method_11_code 6 = .ok (.iload_n 3, 1) := by decide +kernel
theorem d_HE_transformer_7 : decode prog_1_method_11_code 7 = .ok (.invokestatic 123, 3) := by decide +kernel
theorem d_HE_transformer_10 : decode prog_1_method_11_code 10 = .ok (.ifCond .eq 7, 3) := by decide +kernel
theorem d_HE_transformer_13 : decode prog_1_method_11_code 13 = .ok (.iload_n 3, 1) := by decide +kernel
theorem d_HE_transformer_14 : decode prog_1_method_11_code 14 = .ok (.goto 4, 3) := by decide +kernel
theorem d_HE_transformer_17 : decode prog_1_method_11_code 17 = .ok (.iconst (-1), 1) := by decide +kernel
theorem d_HE_transformer_18 : decode prog_1_method_11_code 18 = .ok (.iload 4, 2) := by decide +kernel
theorem d_HE_transformer_20 : decode prog_1_method_11_code 20 = .ok (.invokevirtual 129, 3) := by decide +kernel
theorem d_HE_transformer_23 : decode prog_1_method_11_code 23 = .ok (.ireturn, 1) := by decide +kernel
theorem d_HE_remove_0 : decode prog_1_method_12_code 0 = .ok (.aload_n 0, 1) := by decide +kernel
theorem d_HE_remove_1 : decode prog_1_method_12_code 1 = .ok (.getfield 30, 3) := by decide +kernel
theorem d_HE_remove_4 : decode prog_1_method_12_code 4 = .ok (.iload_n 1, 1) := by decide +kernel
theorem d_HE_remove_5 : decode prog_1_method_12_code 5 = .ok (.invokevirtual 133, 3) := by decide +kernel
theorem d_HE_remove_8 : decode prog_1_method_12_code 8 = .ok (.ireturn, 1) := by decide +kernel
theorem d_HE_queue_0 : decode prog_1_method_13_code 0 = .ok (.aload_n 0, 1) := by decide +kernel
theorem d_HE_queue_1 : decode prog_1_method_13_code 1 = .ok (.getfield 23, 3) := by decide +kernel
theorem d_HE_queue_4 : decode prog_1_method_13_code 4 = .ok (.iload_n 1, 1) := by decide +kernel
theorem d_HE_queue_5 : decode prog_1_method_13_code 5 = .ok (.invokevirtual 58, 3) := by decide +kernel
theorem d_HE_queue_8 : decode prog_1_method_13_code 8 = .ok (.ifnull 19, 3) := by decide +kernel
theorem d_HE_queue_11 : decode prog_1_method_13_code 11 = .ok (.aload_n 0, 1) := by decide +kernel
theorem d_HE_queue_12 : decode prog_1_method_13_code 12 = .ok (.getfield 40, 3) := by decide +kernel
theorem d_HE_queue_15 : decode prog_1_method_13_code 15 = .ok (.iconst 3, 1) := by decide +kernel
theorem d_HE_queue_16 : decode prog_1_method_13_code 16 = .ok (.if_icmp .ge 11, 3) := by decide +kernel
theorem d_HE_queue_19 : decode prog_1_method_13_code 19 = .ok (.aload_n 0, 1) := by decide +kernel
theorem d_HE_queue_20 : decode prog_1_method_13_code 20 = .ok (.iload_n 1, 1) := by decide +kernel
theorem d_HE_queue_21 : decode prog_1_method_13_code 21 = .ok (.invokevirtual 136, 3) := by decide +kernel
theorem d_HE_queue_24 : decode prog_1_method_13_code 24 = .ok (.ifCond .eq 5, 3) := by decide +kernel
theorem d_HE_queue_27 : decode prog_1_method_13_code 27 = .ok (.iconst 0, 1) := by decide +kernel
theorem d_HE_queue_28 : decode prog_1_method_13_code 28 = .ok (.ireturn, 1) := by decide +kernel
theorem d_HE_queue_29 : decode prog_1_method_13_code 29 = .ok (.aload_n 0, 1) := by decide +kernel
theorem d_HE_queue_30 : decode prog_1_method_13_code 30 = .ok (.getfield 36, 3) := by decide +kernel
theorem d_HE_queue_33 : decode prog_1_method_13_code 33 = .ok (.aload_n 0, 1) := by decide +kernel
theorem d_HE_queue_34 : decode prog_1_method_13_code 34 = .ok (.getfield 40, 3) := by decide +kernel
theorem d_HE_queue_37 : decode prog_1_method_13_code 37 = .ok (.aaload, 1) := by decide +kernel
theorem d_HE_queue_38 : decode prog_1_method_13_code 38 = .ok (.aload_n 0, 1) := by decide +kernel
theorem d_HE_queue_39 : decode prog_1_method_13_code 39 = .ok (.getfield 10, 3) := by decide +kernel
theorem d_HE_queue_42 : decode prog_1_method_13_code 42 = .ok (.iload_n 1, 1) := by decide +kernel
theorem d_HE_queue_43 : decode prog_1_method_13_code 43 = .ok (.invokevirtual 106, 3) := by decide +kernel
theorem d_HE_queue_46 : decode prog_1_method_13_code 46 = .ok (.aload_n 0, 1) := by decide +kernel
theorem d_HE_queue_47 : decode prog_1_method_13_code 47 = .ok (.dup, 1) := by decide +kernel
theorem d_HE_queue_48 : decode prog_1_method_13_code 48 = .ok (.getfield 40, 3) := by decide +kernel
theorem d_HE_queue_51 : decode prog_1_method_13_code 51 = .ok (.iconst 1, 1) := by decide +kernel
theorem d_HE_queue_52 : decode prog_1_method_13_code 52 = .ok (.iadd, 1) := by decide +kernel
theorem d_HE_queue_53 : decode prog_1_method_13_code 53 = .ok (.putfield 40, 3) := by decide +kernel
theorem d_HE_queue_56 : decode prog_1_method_13_code 56 = .ok (.iconst 1, 1) := by decide +kernel
theorem d_HE_queue_57 : decode prog_1_method_13_code 57 = .ok (.ireturn, 1) := by decide +kernel
theorem d_HE_swap_0 : decode prog_1_method_14_code 0 = .ok (.aload_n 0, 1) := by decide +kernel
theorem d_HE_swap_1 : decode prog_1_method_14_code 1 = .ok (.invokevirtual 139, 3) := by decide +kernel
theorem d_HE_swap_4 : decode prog_1_method_14_code 4 = .ok (.istore_n 1, 1) := by decide +kernel
theorem d_HE_swap_5 : decode prog_1_method_14_code 5 = .ok (.iload_n 1, 1) := by decide +kernel
theorem d_HE_swap_6 : decode prog_1_method_14_code 6 = .ok (.ifCond .ne 7, 3) := by decide +kernel
theorem d_HE_swap_9 : decode prog_1_method_14_code 9 = .ok (.aload_n 0, 1) := by decide +kernel
theorem d_HE_swap_10 : decode prog_1_method_14_code 10 = .ok (.invokevirtual 143, 3) := by decide +kernel
theorem d_HE_swap_13 : decode prog_1_method_14_code 13 = .ok (.aload_n 0, 1) := by decide +kernel
theorem d_HE_swap_14 : decode prog_1_method_14_code 14 = .ok (.iconst 0, 1) := by decide +kernel
theorem d_HE_swap_15 : decode prog_1_method_14_code 15 = .ok (.putfield 40, 3) := by decide +kernel
theorem d_HE_swap_18 : decode prog_1_method_14_code 18 = .ok (.iload_n 1, 1) := by decide +kernel
theorem d_HE_swap_19 : decode prog_1_method_14_code 19 = .ok (.ireturn, 1) := by decide +kernel
theorem d_HE_repeat_0 : decode prog_1_method_15_code 0 = .ok (.aload_n 0, 1) := by decide +kernel
theorem d_HE_repeat_1 : decode prog_1_method_15_code 1 = .ok (.getfield 23, 3) := by decide +kernel
theorem d_HE_repeat_4 : decode prog_1_method_15_code 4 = .ok (.iload_n 1, 1) := by decide +kernel
theorem d_HE_repeat_5 : decode prog_1_method_15_code 5 = .ok (.invokevirtual 58, 3) := by decide +kernel
theorem d_HE_repeat_8 : decode prog_1_method_15_code 8 = .ok (.astore_n 2, 1) := by decide +kernel
theorem d_HE_repeat_9 : decode prog_1_method_15_code 9 = .ok (.aload_n 2, 1) := by decide +kernel
theorem d_HE_repeat_10 : decode prog_1_method_15_code 10 = .ok (.ifnonnull 5, 3) := by decide +kernel
theorem d_HE_repeat_13 : decode prog_1_method_15_code 13 = .ok (.iconst (-1), 1) := by decide +kernel
theorem d_HE_repeat_14 : decode prog_1_method_15_code 14 = .ok (.ireturn, 1) := by decide +kernel
theorem d_HE_repeat_15 : decode prog_1_method_15_code 15 = .ok (.aload_n 0, 1) := by decide +kernel
theorem d_HE_repeat_16 : decode prog_1_method_15_code 16 = .ok (.getfield 44, 3) := by decide +kernel
theorem d_HE_repeat_19 : decode prog_1_method_15_code 19 = .ok (.aload_n 2, 1) := by decide +kernel
theorem d_HE_repeat_20 : decode prog_1_method_15_code 20 = .ok (.getfield 146, 3) := by decide +kernel
theorem d_HE_repeat_23 : decode prog_1_method_15_code 23 = .ok (.iload_n 1, 1) := by decide +kernel
theorem d_HE_repeat_24 : decode prog_1_method_15_code 24 = .ok (.invokevirtual 106, 3) := by decide +kernel
theorem d_HE_repeat_27 : decode prog_1_method_15_code 27 = .ok (.aload_n 0, 1) := by decide +kernel
theorem d_HE_repeat_28 : decode prog_1_method_15_code 28 = .ok (.getfield 30, 3) := by decide +kernel
theorem d_HE_repeat_31 : decode prog_1_method_15_code 31 = .ok (.aload_n 0, 1) := by decide +kernel
theorem d_HE_repeat_32 : decode prog_1_method_15_code 32 = .ok (.getfield 44, 3) := by decide +kernel
theorem d_HE_repeat_35 : decode prog_1_method_15_code 35 = .ok (.getfield 114, 3) := by decide +kernel
theorem d_HE_repeat_38 : decode prog_1_method_15_code 38 = .ok (.iload_n 1, 1) := by decide +kernel
theorem d_HE_repeat_39 : decode prog_1_method_15_code 39 = .ok (.iconst 1, 1) := by decide +kernel
theorem d_HE_repeat_40 : decode prog_1_method_15_code 40 = .ok (.invokevirtual 149, 3) := by decide +kernel
theorem d_HE_repeat_43 : decode prog_1_method_15_code 43 = .ok (.aload_n 0, 1) := by decide +kernel
theorem d_HE_repeat_44 : decode prog_1_method_15_code 44 = .ok (.getfield 44, 3) := by decide +kernel
theorem d_HE_repeat_47 : decode prog_1_method_15_code 47 = .ok (.getfield 114, 3) := by decide +kernel
theorem d_HE_repeat_50 : decode prog_1_method_15_code 50 = .ok (.iload_n 1, 1) := by decide +kernel
theorem d_HE_repeat_51 : decode prog_1_method_15_code 51 = .ok (.aload_n 2, 1) := by decide +kernel
theorem d_HE_repeat_52 : decode prog_1_method_15_code 52 = .ok (.getfield 62, 3) := by decide +kernel
theorem d_HE_repeat_55 : decode prog_1_method_15_code 55 = .ok (.aload_n 0, 1) := by decide +kernel
theorem d_HE_repeat_56 : decode prog_1_method_15_code 56 = .ok (.getfield 23, 3) := by decide +kernel
theorem d_HE_repeat_59 : decode prog_1_method_15_code 59 = .ok (.invokestatic 153, 3) := by decide +kernel
theorem d_HE_repeat_62 : decode prog_1_method_15_code 62 = .ok (.istore_n 3, 1) := by decide +kernel
theorem d_HE_repeat_63 : decode prog_1_method_15_code 63 = .ok (.iload_n 3, 1) := by decide +kernel
theorem d_HE_repeat_64 : decode prog_1_method_15_code 64 = .ok (.ifCond .ne 14, 3) := by decide +kernel
theorem d_HE_repeat_67 : decode prog_1_method_15_code 67 = .ok (.aload_n 2, 1) := by decide +kernel
theorem d_HE_repeat_68 : decode prog_1_method_15_code 68 = .ok (.aload_n 0, 1) := by decide +kernel
theorem d_HE_repeat_69 : decode prog_1_method_15_code 69 = .ok (.getfield 44, 3) := by decide +kernel
theorem d_HE_repeat_72 : decode prog_1_method_15_code 72 = .ok (.getfield 114, 3) := by decide +kernel
theorem d_HE_repeat_75 : decode prog_1_method_15_code 75 = .ok (.invokevirtual 157, 3) := by decide +kernel
theorem d_HE_repeat_78 : decode prog_1_method_15_code 78 = .ok (.iload_n 3, 1) := by decide +kernel
theorem d_HE_repeat_79 : decode prog_1_method_15_code 79 = .ok (.ireturn, 1) := by decide +kernel
theorem d_HE_start_0 : decode prog_1_method_16_code 0 = .ok (.iload_n 1, 1) := by decide +kernel
theorem d_HE_start_1 : decode prog_1_method_16_code 1 = .ok (.invokestatic 160, 3) := by decide +kernel
theorem d_HE_start_4 : decode prog_1_method_16_code 4 = .ok (.ifCond .eq 15, 3) := by decide +kernel
theorem d_HE_start_7 : decode prog_1_method_16_code 7 = .ok (.aload_n 0, 1) := by decide +kernel
theorem d_HE_start_8 : decode prog_1_method_16_code 8 = .ok (.getfield 50, 3) := by decide +kernel
theorem d_HE_start_11 : decode prog_1_method_16_code 11 = .ok (.iload_n 1, 1) := by decide +kernel
theorem d_HE_start_12 : decode prog_1_method_16_code 12 = .ok (.aaload, 1) := by decide +kernel
theorem d_HE_start_13 : decode prog_1_method_16_code 13 = .ok (.getfield 163, 3) := by decide +kernel
theorem d_HE_start_16 : decode prog_1_method_16_code 16 = .ok (.ifCond .eq 5, 3) := by decide +kernel
theorem d_HE_start_19 : decode prog_1_method_16_code 19 = .ok (.iconst 0, 1) := by decide +kernel
theorem d_HE_start_20 : decode prog_1_method_16_code 20 = .ok (.ireturn, 1) := by decide +kernel
theorem d_HE_start_21 : decode prog_1_method_16_code 21 = .ok (.aload_n 0, 1) := by decide +kernel
theorem d_HE_start_22 : decode prog_1_method_16_code 22 = .ok (.getfield 50, 3) := by decide +kernel
theorem d_HE_start_25 : decode prog_1_method_16_code 25 = .ok (.iload_n 1, 1) := by decide +kernel
theorem d_HE_start_26 : decode prog_1_method_16_code 26 = .ok (.aaload, 1) := by decide +kernel
theorem d_HE_start_27 : decode prog_1_method_16_code 27 = .ok (.iload_n 2, 1) := by decide +kernel
theorem d_HE_start_28 : decode prog_1_method_16_code 28 = .ok (.iload_n 3, 1) := by decide +kernel
theorem d_HE_start_29 : decode prog_1_method_16_code 29 = .ok (.aload_n 0, 1) := by decide +kernel
theorem d_HE_start_30 : decode prog_1_method_16_code 30 = .ok (.getfield 23, 3) := by decide +kernel
theorem d_HE_start_33 : decode prog_1_method_16_code 33 = .ok (.invokevirtual 166, 3) := by decide +kernel
theorem d_HE_start_36 : decode prog_1_method_16_code 36 = .ok (.ireturn, 1) := by decide +kernel
theorem d_HE_step_0 : decode prog_1_method_17_code 0 = .ok (.iload_n 1, 1) := by decide +kernel
theorem d_HE_step_1 : decode prog_1_method_17_code 1 = .ok (.invokestatic 160, 3) := by decide +kernel
theorem d_HE_step_4 : decode prog_1_method_17_code 4 = .ok (.ifCond .eq 13, 3) := by decide +kernel
theorem d_HE_step_7 : decode prog_1_method_17_code 7 = .ok (.iload_n 2, 1) := by decide +kernel
theorem d_HE_step_8 : decode prog_1_method_17_code 8 = .ok (.ifCond .lt 9, 3) := by decide +kernel
theorem d_HE_step_11 : decode prog_1_method_17_code 11 = .ok (.iload_n 2, 1) := by decide +kernel
theorem d_HE_step_12 : decode prog_1_method_17_code 12 = .ok (.bipush 100, 2) := by decide +kernel
theorem d_HE_step_14 : decode prog_1_method_17_code 14 = .ok (.if_icmp .le 5, 3) := by decide +kernel
theorem d_HE_step_17 : decode prog_1_method_17_code 17 = .ok (.iconst (-1), 1) := by decide +kernel
theorem d_HE_step_18 : decode prog_1_method_17_code 18 = .ok (.ireturn, 1) := by decide +kernel
theorem d_HE_step_19 : decode prog_1_method_17_code 19 = .ok (.iconst 0, 1) := by decide +kernel
theorem d_HE_step_20 : decode prog_1_method_17_code 20 = .ok (.istore_n 3, 1) := by decide +kernel
theorem d_HE_step_21 : decode prog_1_method_17_code 21 = .ok (.iload_n 3, 1) := by decide +kernel
theorem d_HE_step_22 : decode prog_1_method_17_code 22 = .ok (.iload_n 2, 1) := by decide +kernel
theorem d_HE_step_23 : decode prog_1_method_17_code 23 = .ok (.if_icmp .ge 34, 3) := by decide +kernel
theorem d_HE_step_26 : decode prog_1_method_17_code 26 = .ok (.aload_n 0, 1) := by decide +kernel
theorem d_HE_step_27 : decode prog_1_method_17_code 27 = .ok (.getfield 50, 3) := by decide +kernel
theorem d_HE_step_30 : decode prog_1_method_17_code 30 = .ok (.iload_n 1, 1) := by decide +kernel
theorem d_HE_step_31 : decode prog_1_method_17_code 31 = .ok (.aaload, 1) := by decide +kernel
theorem d_HE_step_32 : decode prog_1_method_17_code 32 = .ok (.getfield 163, 3) := by decide +kernel
theorem d_HE_step_35 : decode prog_1_method_17_code 35 = .ok (.ifCond .eq 22, 3) := by decide +kernel
theorem d_HE_step_38 : decode prog_1_method_17_code 38 = .ok (.aload_n 0, 1) := by decide +kernel
theorem d_HE_step_39 : decode prog_1_method_17_code 39 = .ok (.getfield 50, 3) := by decide +kernel
theorem d_HE_step_42 : decode prog_1_method_17_code 42 = .ok (.iload_n 1, 1) := by decide +kernel
theorem d_HE_step_43 : decode prog_1_method_17_code 43 = .ok (.aaload, 1) := by decide +kernel
theorem d_HE_step_44 : decode prog_1_method_17_code 44 = .ok (.aload_n 0, 1) := by decide +kernel
theorem d_HE_step_45 : decode prog_1_method_17_code 45 = .ok (.getfield 23, 3) := by decide +kernel
theorem d_HE_step_48 : decode prog_1_method_17_code 48 = .ok (.invokevirtual 170, 3) := by decide +kernel
theorem d_HE_step_51 : decode prog_1_method_17_code 51 = .ok (.iinc 3 1, 3) := by decide +kernel
theorem d_HE_step_54 : decode prog_1_method_17_code 54 = .ok (.goto (-33), 3) := by decide +kernel
theorem d_HE_step_57 : decode prog_1_method_17_code 57 = .ok (.iload_n 3, 1) := by decide +kernel
theorem d_HE_step_58 : decode prog_1_method_17_code 58 = .ok (.ireturn, 1) := by decide +kernel
theorem d_HE_frame_0 : decode prog_1_method_18_code 0 = .ok (.aload_n 0, 1) := by decide +kernel
theorem d_HE_frame_1 : decode prog_1_method_18_code 1 = .ok (.iload_n 1, 1) := by decide +kernel
theorem d_HE_frame_2 : decode prog_1_method_18_code 2 = .ok (.iload_n 2, 1) := by decide +kernel
theorem d_HE_frame_3 : decode prog_1_method_18_code 3 = .ok (.invokevirtual 174, 3) := by decide +kernel
theorem d_HE_frame_6 : decode prog_1_method_18_code 6 = .ok (.astore_n 3, 1) := by decide +kernel
theorem d_HE_frame_7 : decode prog_1_method_18_code 7 = .ok (.aload_n 3, 1) := by decide +kernel
theorem d_HE_frame_8 : decode prog_1_method_18_code 8 = .ok (.ifnonnull 7, 3) := by decide +kernel
theorem d_HE_frame_11 : decode prog_1_method_18_code 11 = .ok (.iconst (-1), 1) := by decide +kernel
theorem d_HE_frame_12 : decode prog_1_method_18_code 12 = .ok (.goto 15, 3) := by decide +kernel
theorem d_HE_frame_15 : decode prog_1_method_18_code 15 = .ok (.bipush 8, 2) := by decide +kernel
theorem d_HE_frame_17 : decode prog_1_method_18_code 17 = .ok (.aload_n 3, 1) := by decide +kernel
theorem d_HE_frame_18 : decode prog_1_method_18_code 18 = .ok (.getfield 178, 3) := by decide +kernel
theorem d_HE_frame_21 : decode prog_1_method_18_code 21 = .ok (.imul, 1) := by decide +kernel
theorem d_HE_frame_22 : decode prog_1_method_18_code 22 = .ok (.aload_n 3, 1) := by decide +kernel
theorem d_HE_frame_23 : decode prog_1_method_18_code 23 = .ok (.getfield 183, 3) := by decide +kernel
theorem d_HE_frame_26 : decode prog_1_method_18_code 26 = .ok (.iadd, 1) := by decide +kernel
theorem d_HE_frame_27 : decode prog_1_method_18_code 27 = .ok (.ireturn, 1) := by decide +kernel
theorem d_HE_result_0 : decode prog_1_method_19_code 0 = .ok (.iload_n 1, 1) := by decide +kernel
theorem d_HE_result_1 : decode prog_1_method_19_code 1 = .ok (.invokestatic 160, 3) := by decide +kernel
theorem d_HE_result_4 : decode prog_1_method_19_code 4 = .ok (.ifCond .eq 15, 3) := by decide +kernel
theorem d_HE_result_7 : decode prog_1_method_19_code 7 = .ok (.aload_n 0, 1) := by decide +kernel
theorem d_HE_result_8 : decode prog_1_method_19_code 8 = .ok (.getfield 50, 3) := by decide +kernel
theorem d_HE_result_11 : decode prog_1_method_19_code 11 = .ok (.iload_n 1, 1) := by decide +kernel
theorem d_HE_result_12 : decode prog_1_method_19_code 12 = .ok (.aaload, 1) := by decide +kernel
theorem d_HE_result_13 : decode prog_1_method_19_code 13 = .ok (.getfield 186, 3) := by decide +kernel
theorem d_HE_result_16 : decode prog_1_method_19_code 16 = .ok (.goto 4, 3) := by decide +kernel
theorem d_HE_result_19 : decode prog_1_method_19_code 19 = .ok (.iconst 0, 1) := by decide +kernel
theorem d_HE_result_20 : decode prog_1_method_19_code 20 = .ok (.ireturn, 1) := by decide +kernel
theorem d_HE_edition_0 : decode prog_1_method_20_code 0 = .ok (.aload_n 0, 1) := by decide +kernel
theorem d_HE_edition_1 : decode prog_1_method_20_code 1 = .ok (.getfield 23, 3) := by decide +kernel
theorem d_HE_edition_4 : decode prog_1_method_20_code 4 = .ok (.iload_n 1, 1) := by decide +kernel
theorem d_HE_edition_5 : decode prog_1_method_20_code 5 = .ok (.invokevirtual 58, 3) := by decide +kernel
theorem d_HE_edition_8 : decode prog_1_method_20_code 8 = .ok (.astore_n 2, 1) := by decide +kernel
theorem d_HE_edition_9 : decode prog_1_method_20_code 9 = .ok (.aload_n 2, 1) := by decide +kernel
theorem d_HE_edition_10 : decode prog_1_method_20_code 10 = .ok (.ifnonnull 7, 3) := by decide +kernel
theorem d_HE_edition_13 : decode prog_1_method_20_code 13 = .ok (.iconst 0, 1) := by decide +kernel
theorem d_HE_edition_14 : decode prog_1_method_20_code 14 = .ok (.goto 7, 3) := by decide +kernel
theorem d_HE_edition_17 : decode prog_1_method_20_code 17 = .ok (.aload_n 2, 1) := by decide +kernel
theorem d_HE_edition_18 : decode prog_1_method_20_code 18 = .ok (.getfield 189, 3) := by decide +kernel
theorem d_HE_edition_21 : decode prog_1_method_20_code 21 = .ok (.ireturn, 1) := by decide +kernel
theorem d_HE_kept_0 : decode prog_1_method_21_code 0 = .ok (.aload_n 0, 1) := by decide +kernel
theorem d_HE_kept_1 : decode prog_1_method_21_code 1 = .ok (.getfield 23, 3) := by decide +kernel
theorem d_HE_kept_4 : decode prog_1_method_21_code 4 = .ok (.iload_n 1, 1) := by decide +kernel
theorem d_HE_kept_5 : decode prog_1_method_21_code 5 = .ok (.invokevirtual 58, 3) := by decide +kernel
theorem d_HE_kept_8 : decode prog_1_method_21_code 8 = .ok (.astore_n 2, 1) := by decide +kernel
theorem d_HE_kept_9 : decode prog_1_method_21_code 9 = .ok (.aload_n 2, 1) := by decide +kernel
theorem d_HE_kept_10 : decode prog_1_method_21_code 10 = .ok (.ifnonnull 5, 3) := by decide +kernel
theorem d_HE_kept_13 : decode prog_1_method_21_code 13 = .ok (.iconst 0, 1) := by decide +kernel
theorem d_HE_kept_14 : decode prog_1_method_21_code 14 = .ok (.ireturn, 1) := by decide +kernel
theorem d_HE_kept_15 : decode prog_1_method_21_code 15 = .ok (.iconst 1, 1) := by decide +kernel
theorem d_HE_kept_16 : decode prog_1_method_21_code 16 = .ok (.istore_n 3, 1) := by decide +kernel
theorem d_HE_kept_17 : decode prog_1_method_21_code 17 = .ok (.iconst 0, 1) := by decide +kernel
theorem d_HE_kept_18 : decode prog_1_method_21_code 18 = .ok (.istore 4, 2) := by decide +kernel
theorem d_HE_kept_20 : decode prog_1_method_21_code 20 = .ok (.iload 4, 2) := by decide +kernel
theorem d_HE_kept_22 : decode prog_1_method_21_code 22 = .ok (.iconst 3, 1) := by decide +kernel
theorem d_HE_kept_23 : decode prog_1_method_21_code 23 = .ok (.if_icmp .ge 76, 3) := by decide +kernel
theorem d_HE_kept_26 : decode prog_1_method_21_code 26 = .ok (.iconst 0, 1) := by decide +kernel
theorem d_HE_kept_27 : decode prog_1_method_21_code 27 = .ok (.istore 5, 2) := by decide +kernel
theorem d_HE_kept_29 : decode prog_1_method_21_code 29 = .ok (.iload 5, 2) := by decide +kernel
theorem d_HE_kept_31 : decode prog_1_method_21_code 31 = .ok (.iconst 5, 1) := by decide +kernel
theorem d_HE_kept_32 : decode prog_1_method_21_code 32 = .ok (.if_icmp .ge 61, 3) := by decide +kernel
theorem d_HE_kept_35 : decode prog_1_method_21_code 35 = .ok (.aload_n 0, 1) := by decide +kernel
theorem d_HE_kept_36 : decode prog_1_method_21_code 36 = .ok (.iload 4, 2) := by decide +kernel
theorem d_HE_kept_38 : decode prog_1_method_21_code 38 = .ok (.iload 5, 2) := by decide +kernel
theorem d_HE_kept_40 : decode prog_1_method_21_code 40 = .ok (.invokevirtual 174, 3) := by decide +kernel
theorem d_HE_kept_43 : decode prog_1_method_21_code 43 = .ok (.astore 6, 2) := by decide +kernel
theorem d_HE_kept_45 : decode prog_1_method_21_code 45 = .ok (.aload 6, 2) := by decide +kernel
theorem d_HE_kept_47 : decode prog_1_method_21_code 47 = .ok (.ifnull 40, 3) := by decide +kernel
theorem d_HE_kept_50 : decode prog_1_method_21_code 50 = .ok (.aload 6, 2) := by decide +kernel
theorem d_HE_kept_52 : decode prog_1_method_21_code 52 = .ok (.getfield 183, 3) := by decide +kernel
theorem d_HE_kept_55 : decode prog_1_method_21_code 55 = .ok (.iload_n 1, 1) := by decide +kernel
theorem d_HE_kept_56 : decode prog_1_method_21_code 56 = .ok (.if_icmp .ne 31, 3) := by decide +kernel
theorem d_HE_kept_59 : decode prog_1_method_21_code 59 = .ok (.aload 6, 2) := by decide +kernel
theorem d_HE_kept_61 : decode prog_1_method_21_code 61 = .ok (.getfield 178, 3) := by decide +kernel
theorem d_HE_kept_64 : decode prog_1_method_21_code 64 = .ok (.aload_n 2, 1) := by decide +kernel
theorem d_HE_kept_65 : decode prog_1_method_21_code 65 = .ok (.getfield 189, 3) := by decide +kernel
theorem d_HE_kept_68 : decode prog_1_method_21_code 68 = .ok (.if_icmp .eq 19, 3) := by decide +kernel
theorem d_HE_kept_71 : decode prog_1_method_21_code 71 = .ok (.aload_n 0, 1) := by decide +kernel
theorem d_HE_kept_72 : decode prog_1_method_21_code 72 = .ok (.iload 4, 2) := by decide +kernel
theorem d_HE_kept_74 : decode prog_1_method_21_code 74 = .ok (.iload 5, 2) := by decide +kernel
theorem d_HE_kept_76 : decode prog_1_method_21_code 76 = .ok (.aload 6, 2) := by decide +kernel
theorem d_HE_kept_78 : decode prog_1_method_21_code 78 = .ok (.invokevirtual 190, 3) := by decide +kernel
theorem d_HE_kept_81 : decode prog_1_method_21_code 81 = .ok (.ifCond .eq 6, 3) := by decide +kernel
theorem d_HE_kept_84 : decode prog_1_method_21_code 84 = .ok (.iinc 3 1, 3) := by decide +kernel
theorem d_HE_kept_87 : decode prog_1_method_21_code 87 = .ok (.iinc 5 1, 3) := by decide +kernel
theorem d_HE_kept_90 : decode prog_1_method_21_code 90 = .ok (.goto (-61), 3) := by decide +kernel
theorem d_HE_kept_93 : decode prog_1_method_21_code 93 = .ok (.iinc 4 1, 3) := by decide +kernel
theorem d_HE_kept_96 : decode prog_1_method_21_code 96 = .ok (.goto (-76), 3) := by decide +kernel
theorem d_HE_kept_99 : decode prog_1_method_21_code 99 = .ok (.iload_n 3, 1) := by decide +kernel
theorem d_HE_kept_100 : decode prog_1_method_21_code 100 = .ok (.ireturn, 1) := by decide +kernel
theorem d_HE_isClass_0 : decode prog_1_method_22_code 0 = .ok (.iload_n 0, 1) := by decide +kernel
theorem d_HE_isClass_1 : decode prog_1_method_22_code 1 = .ok (.ifCond .lt 13, 3) := by decide +kernel
theorem d_HE_isClass_4 : decode prog_1_method_22_code 4 = .ok (.iload_n 0, 1) := by decide +kernel
theorem d_HE_isClass_5 : decode prog_1_method_22_code 5 = .ok (.bipush 6, 2) := by decide +kernel
theorem d_HE_isClass_7 : decode prog_1_method_22_code 7 = .ok (.if_icmp .ge 7, 3) := by decide +kernel
theorem d_HE_isClass_10 : decode prog_1_method_22_code 10 = .ok (.iconst 1, 1) := by decide +kernel
theorem d_HE_isClass_11 : decode prog_1_method_22_code 11 = .ok (.goto 4, 3) := by decide +kernel
theorem d_HE_isClass_14 : decode prog_1_method_22_code 14 = .ok (.iconst 0, 1) := by decide +kernel
theorem d_HE_isClass_15 : decode prog_1_method_22_code 15 = .ok (.ireturn, 1) := by decide +kernel
theorem d_HE_isThread_0 : decode prog_1_method_23_code 0 = .ok (.iload_n 0, 1) := by decide +kernel
theorem d_HE_isThread_1 : decode prog_1_method_23_code 1 = .ok (.ifCond .lt 12, 3) := by decide +kernel
theorem d_HE_isThread_4 : decode prog_1_method_23_code 4 = .ok (.iload_n 0, 1) := by decide +kernel
theorem d_HE_isThread_5 : decode prog_1_method_23_code 5 = .ok (.iconst 3, 1) := by decide +kernel
theorem d_HE_isThread_6 : decode prog_1_method_23_code 6 = .ok (.if_icmp .ge 7, 3) := by decide +kernel
theorem d_HE_isThread_9 : decode prog_1_method_23_code 9 = .ok (.iconst 1, 1) := by decide +kernel
theorem d_HE_isThread_10 : decode prog_1_method_23_code 10 = .ok (.goto 4, 3) := by decide +kernel
theorem d_HE_isThread_13 : decode prog_1_method_23_code 13 = .ok (.iconst 0, 1) := by decide +kernel
theorem d_HE_isThread_14 : decode prog_1_method_23_code 14 = .ok (.ireturn, 1) := by decide +kernel
theorem d_HE_isInBatch_0 : decode prog_1_method_24_code 0 = .ok (.iconst 0, 1) := by decide +kernel
theorem d_HE_isInBatch_1 : decode prog_1_method_24_code 1 = .ok (.istore_n 2, 1) := by decide +kernel
theorem d_HE_isInBatch_2 : decode prog_1_method_24_code 2 = .ok (.iload_n 2, 1) := by decide +kernel
theorem d_HE_isInBatch_3 : decode prog_1_method_24_code 3 = .ok (.aload_n 0, 1) := by decide +kernel
theorem d_HE_isInBatch_4 : decode prog_1_method_24_code 4 = .ok (.getfield 40, 3) := by decide +kernel
theorem d_HE_isInBatch_7 : decode prog_1_method_24_code 7 = .ok (.if_icmp .ge 24, 3) := by decide +kernel
theorem d_HE_isInBatch_10 : decode prog_1_method_24_code 10 = .ok (.aload_n 0, 1) := by decide +kernel
theorem d_HE_isInBatch_11 : decode prog_1_method_24_code 11 = .ok (.getfield 36, 3) := by decide +kernel
theorem d_HE_isInBatch_14 : decode prog_1_method_24_code 14 = .ok (.iload_n 2, 1) := by decide +kernel
theorem d_HE_isInBatch_15 : decode prog_1_method_24_code 15 = .ok (.aaload, 1) := by decide +kernel
theorem d_HE_isInBatch_16 : decode prog_1_method_24_code 16 = .ok (.getfield 194, 3) := by decide +kernel
theorem d_HE_isInBatch_19 : decode prog_1_method_24_code 19 = .ok (.iload_n 1, 1) := by decide +kernel
theorem d_HE_isInBatch_20 : decode prog_1_method_24_code 20 = .ok (.if_icmp .ne 5, 3) := by decide +kernel
theorem d_HE_isInBatch_23 : decode prog_1_method_24_code 23 = .ok (.iconst 1, 1) := by decide +kernel
theorem d_HE_isInBatch_24 : decode prog_1_method_24_code 24 = .ok (.ireturn, 1) := by decide +kernel
theorem d_HE_isInBatch_25 : decode prog_1_method_24_code 25 = .ok (.iinc 2 1, 3) := by decide +kernel
theorem d_HE_isInBatch_28 : decode prog_1_method_24_code 28 = .ok (.goto (-26), 3) := by decide +kernel
theorem d_HE_isInBatch_31 : decode prog_1_method_24_code 31 = .ok (.iconst 0, 1) := by decide +kernel
theorem d_HE_isInBatch_32 : decode prog_1_method_24_code 32 = .ok (.ireturn, 1) := by decide +kernel
theorem d_HE_firstBrokenOfBatch_0 : decode prog_1_method_25_code 0 = .ok (.iconst 0, 1) := by decide +kernel
theorem d_HE_firstBrokenOfBatch_1 : decode prog_1_method_25_code 1 = .ok (.istore_n 1, 1) := by decide +kernel
theorem d_HE_firstBrokenOfBatch_2 : decode prog_1_method_25_code 2 = .ok (.iload_n 1, 1) := by decide +kernel
theorem d_HE_firstBrokenOfBatch_3 : decode prog_1_method_25_code 3 = .ok (.aload_n 0, 1) := by decide +kernel
theorem d_HE_firstBrokenOfBatch_4 : decode prog_1_method_25_code 4 = .ok (.getfield 40, 3) := by decide +kernel
theorem d_HE_firstBrokenOfBatch_7 : decode prog_1_method_25_code 7 = .ok (.if_icmp .ge 77, 3) := by decide +kernel
theorem d_HE_firstBrokenOfBatch_10 : decode prog_1_method_25_code 10 = .ok (.aload_n 0, 1) := by decide +kernel
theorem d_HE_firstBrokenOfBatch_11 : decode prog_1_method_25_code 11 = .ok (.getfield 36, 3) := by decide +kernel
theorem d_HE_firstBrokenOfBatch_14 : decode prog_1_method_25_code 14 = .ok (.iload_n 1, 1) := by decide +kernel
theorem d_HE_firstBrokenOfBatch_15 : decode prog_1_method_25_code 15 = .ok (.aaload, 1) := by decide +kernel
theorem d_HE_firstBrokenOfBatch_16 : decode prog_1_method_25_code 16 = .ok (.astore_n 2, 1) := by decide +kernel
theorem d_HE_firstBrokenOfBatch_17 : decode prog_1_method_25_code 17 = .ok (.aload_n 0, 1) := by decide +kernel
theorem d_HE_firstBrokenOfBatch_18 : decode prog_1_method_25_code 18 = .ok (.getfield 23, 3) := by decide +kernel
theorem d_HE_firstBrokenOfBatch_21 : decode prog_1_method_25_code 21 = .ok (.aload_n 2, 1) := by decide +kernel
theorem d_HE_firstBrokenOfBatch_22 : decode prog_1_method_25_code 22 = .ok (.getfield 194, 3) := by decide +kernel
theorem d_HE_firstBrokenOfBatch_25 : decode prog_1_method_25_code 25 = .ok (.invokevirtual 58, 3) := by decide +kernel
theorem d_HE_firstBrokenOfBatch_28 : decode prog_1_method_25_code 28 = .ok (.astore_n 3, 1) := by decide +kernel
theorem d_HE_firstBrokenOfBatch_29 : decode prog_1_method_25_code 29 = .ok (.aload_n 3, 1) := by decide +kernel
theorem d_HE_firstBrokenOfBatch_30 : decode prog_1_method_25_code 30 = .ok (.ifnull 48, 3) := by decide +kernel
theorem d_HE_firstBrokenOfBatch_33 : decode prog_1_method_25_code 33 = .ok (.aload_n 0, 1) := by decide +kernel
theorem d_HE_firstBrokenOfBatch_34 : decode prog_1_method_25_code 34 = .ok (.getfield 30, 3) := by decide +kernel
theorem d_HE_firstBrokenOfBatch_37 : decode prog_1_method_25_code 37 = .ok (.aload_n 2, 1) := by decide +kernel
theorem d_HE_firstBrokenOfBatch_38 : decode prog_1_method_25_code 38 = .ok (.invokevirtual 110, 3) := by decide +kernel
theorem d_HE_firstBrokenOfBatch_41 : decode prog_1_method_25_code 41 = .ok (.aload_n 2, 1) := by decide +kernel
theorem d_HE_firstBrokenOfBatch_42 : decode prog_1_method_25_code 42 = .ok (.getfield 114, 3) := by decide +kernel
theorem d_HE_firstBrokenOfBatch_45 : decode prog_1_method_25_code 45 = .ok (.aload_n 2, 1) := by decide +kernel
theorem d_HE_firstBrokenOfBatch_46 : decode prog_1_method_25_code 46 = .ok (.getfield 194, 3) := by decide +kernel
theorem d_HE_firstBrokenOfBatch_49 : decode prog_1_method_25_code 49 = .ok (.aload_n 3, 1) := by decide +kernel
theorem d_HE_firstBrokenOfBatch_50 : decode prog_1_method_25_code 50 = .ok (.getfield 62, 3) := by decide +kernel
theorem d_HE_firstBrokenOfBatch_53 : decode prog_1_method_25_code 53 = .ok (.aload_n 0, 1) := by decide +kernel
theorem d_HE_firstBrokenOfBatch_54 : decode prog_1_method_25_code 54 = .ok (.getfield 23, 3) := by decide +kernel
theorem d_HE_firstBrokenOfBatch_57 : decode prog_1_method_25_code 57 = .ok (.invokestatic 153, 3) := by decide +kernel
theorem d_HE_firstBrokenOfBatch_60 : decode prog_1_method_25_code 60 = .ok (.istore 4, 2) := by decide +kernel
theorem d_HE_firstBrokenOfBatch_62 : decode prog_1_method_25_code 62 = .ok (.iload 4, 2) := by decide +kernel
theorem d_HE_firstBrokenOfBatch_64 : decode prog_1_method_25_code 64 = .ok (.ifCond .eq 14, 3) := by decide +kernel
theorem d_HE_firstBrokenOfBatch_67 : decode prog_1_method_25_code 67 = .ok (.bipush 16, 2) := by decide +kernel
theorem d_HE_firstBrokenOfBatch_69 : decode prog_1_method_25_code 69 = .ok (.aload_n 2, 1) := by decide +kernel
theorem d_HE_firstBrokenOfBatch_70 : decode prog_1_method_25_code 70 = .ok (.getfield 194, 3) := by decide +kernel
theorem d_HE_firstBrokenOfBatch_73 : decode prog_1_method_25_code 73 = .ok (.imul, 1) := by decide +kernel
theorem d_HE_firstBrokenOfBatch_74 : decode prog_1_method_25_code 74 = .ok (.iload 4, 2) := by decide +kernel
theorem d_HE_firstBrokenOfBatch_76 : decode prog_1_method_25_code 76 = .ok (.iadd, 1) := by decide +kernel
theorem d_HE_firstBrokenOfBatch_77 : decode prog_1_method_25_code 77 = .ok (.ireturn, 1) := by decide +kernel
theorem d_HE_firstBrokenOfBatch_78 : decode prog_1_method_25_code 78 = .ok (.iinc 1 1, 3) := by decide +kernel
theorem d_HE_firstBrokenOfBatch_81 : decode prog_1_method_25_code 81 = .ok (.goto (-79), 3) := by decide +kernel
theorem d_HE_firstBrokenOfBatch_84 : decode prog_1_method_25_code 84 = .ok (.iconst 0, 1) := by decide +kernel
theorem d_HE_firstBrokenOfBatch_85 : decode prog_1_method_25_code 85 = .ok (.ireturn, 1) := by decide +kernel
theorem d_HE_installBatch_0 : decode prog_1_method_26_code 0 = .ok (.iconst 0, 1) := by decide +kernel
theorem d_HE_installBatch_1 : decode prog_1_method_26_code 1 = .ok (.istore_n 1, 1) := by decide +kernel
theorem d_HE_installBatch_2 : decode prog_1_method_26_code 2 = .ok (.iload_n 1, 1) := by decide +kernel
theorem d_HE_installBatch_3 : decode prog_1_method_26_code 3 = .ok (.aload_n 0, 1) := by decide +kernel
theorem d_HE_installBatch_4 : decode prog_1_method_26_code 4 = .ok (.getfield 40, 3) := by decide +kernel
theorem d_HE_installBatch_7 : decode prog_1_method_26_code 7 = .ok (.if_icmp .ge 59, 3) := by decide +kernel
theorem d_HE_installBatch_10 : decode prog_1_method_26_code 10 = .ok (.aload_n 0, 1) := by decide +kernel
theorem d_HE_installBatch_11 : decode prog_1_method_26_code 11 = .ok (.getfield 23, 3) := by decide +kernel
theorem d_HE_installBatch_14 : decode prog_1_method_26_code 14 = .ok (.aload_n 0, 1) := by decide +kernel
theorem d_HE_installBatch_15 : decode prog_1_method_26_code 15 = .ok (.getfield 36, 3) := by decide +kernel
theorem d_HE_installBatch_18 : decode prog_1_method_26_code 18 = .ok (.iload_n 1, 1) := by decide +kernel
theorem d_HE_installBatch_19 : decode prog_1_method_26_code 19 = .ok (.aaload, 1) := by decide +kernel
theorem d_HE_installBatch_20 : decode prog_1_method_26_code 20 = .ok (.getfield 194, 3) := by decide +kernel
theorem d_HE_installBatch_23 : decode prog_1_method_26_code 23 = .ok (.invokevirtual 58, 3) := by decide +kernel
theorem d_HE_installBatch_26 : decode prog_1_method_26_code 26 = .ok (.astore_n 2, 1) := by decide +kernel
theorem d_HE_installBatch_27 : decode prog_1_method_26_code 27 = .ok (.aload_n 2, 1) := by decide +kernel
theorem d_HE_installBatch_28 : decode prog_1_method_26_code 28 = .ok (.ifnull 32, 3) := by decide +kernel
theorem d_HE_installBatch_31 : decode prog_1_method_26_code 31 = .ok (.aload_n 2, 1) := by decide +kernel
theorem d_HE_installBatch_32 : decode prog_1_method_26_code 32 = .ok (.aload_n 0, 1) := by decide +kernel
theorem d_HE_installBatch_33 : decode prog_1_method_26_code 33 = .ok (.getfield 36, 3) := by decide +kernel
theorem d_HE_installBatch_36 : decode prog_1_method_26_code 36 = .ok (.iload_n 1, 1) := by decide +kernel
theorem d_HE_installBatch_37 : decode prog_1_method_26_code 37 = .ok (.aaload, 1) := by decide +kernel
theorem d_HE_installBatch_38 : decode prog_1_method_26_code 38 = .ok (.getfield 114, 3) := by decide +kernel
theorem d_HE_installBatch_41 : decode prog_1_method_26_code 41 = .ok (.invokevirtual 157, 3) := by decide +kernel
theorem d_HE_installBatch_44 : decode prog_1_method_26_code 44 = .ok (.aload_n 2, 1) := by decide +kernel
theorem d_HE_installBatch_45 : decode prog_1_method_26_code 45 = .ok (.getfield 146, 3) := by decide +kernel
theorem d_HE_installBatch_48 : decode prog_1_method_26_code 48 = .ok (.aload_n 0, 1) := by decide +kernel
theorem d_HE_installBatch_49 : decode prog_1_method_26_code 49 = .ok (.getfield 36, 3) := by decide +kernel
theorem d_HE_installBatch_52 : decode prog_1_method_26_code 52 = .ok (.iload_n 1, 1) := by decide +kernel
theorem d_HE_installBatch_53 : decode prog_1_method_26_code 53 = .ok (.aaload, 1) := by decide +kernel
theorem d_HE_installBatch_54 : decode prog_1_method_26_code 54 = .ok (.getfield 197, 3) := by decide +kernel
theorem d_HE_installBatch_57 : decode prog_1_method_26_code 57 = .ok (.invokevirtual 67, 3) := by decide +kernel
theorem d_HE_installBatch_60 : decode prog_1_method_26_code 60 = .ok (.iinc 1 1, 3) := by decide +kernel
theorem d_HE_installBatch_63 : decode prog_1_method_26_code 63 = .ok (.goto (-61), 3) := by decide +kernel
theorem d_HE_installBatch_66 : decode prog_1_method_26_code 66 = .ok (.return_, 1) := by decide +kernel
theorem d_HE_findFrame_0 : decode prog_1_method_27_code 0 = .ok (.iload_n 1, 1) := by decide +kernel
theorem d_HE_findFrame_1 : decode prog_1_method_27_code 1 = .ok (.invokestatic 160, 3) := by decide +kernel
theorem d_HE_findFrame_4 : decode prog_1_method_27_code 4 = .ok (.ifCond .eq 20, 3) := by decide +kernel
theorem d_HE_findFrame_7 : decode prog_1_method_27_code 7 = .ok (.iload_n 2, 1) := by decide +kernel
theorem d_HE_findFrame_8 : decode prog_1_method_27_code 8 = .ok (.ifCond .lt 16, 3) := by decide +kernel
theorem d_HE_findFrame_11 : decode prog_1_method_27_code 11 = .ok (.iload_n 2, 1) := by decide +kernel
theorem d_HE_findFrame_12 : decode prog_1_method_27_code 12 = .ok (.aload_n 0, 1) := by decide +kernel
theorem d_HE_findFrame_13 : decode prog_1_method_27_code 13 = .ok (.getfield 50, 3) := by decide +kernel
theorem d_HE_findFrame_16 : decode prog_1_method_27_code 16 = .ok (.iload_n 1, 1) := by decide +kernel
theorem d_HE_findFrame_17 : decode prog_1_method_27_code 17 = .ok (.aaload, 1) := by decide +kernel
theorem d_HE_findFrame_18 : decode prog_1_method_27_code 18 = .ok (.getfield 163, 3) := by decide +kernel
theorem d_HE_findFrame_21 : decode prog_1_method_27_code 21 = .ok (.if_icmp .lt 5, 3) := by decide +kernel
theorem d_HE_findFrame_24 : decode prog_1_method_27_code 24 = .ok (.aconst_null, 1) := by decide +kernel
theorem d_HE_findFrame_25 : decode prog_1_method_27_code 25 = .ok (.areturn, 1) := by decide +kernel
theorem d_HE_findFrame_26 : decode prog_1_method_27_code 26 = .ok (.aload_n 0, 1) := by decide +kernel
theorem d_HE_findFrame_27 : decode prog_1_method_27_code 27 = .ok (.getfield 50, 3) := by decide +kernel
theorem d_HE_findFrame_30 : decode prog_1_method_27_code 30 = .ok (.iload_n 1, 1) := by decide +kernel
theorem d_HE_findFrame_31 : decode prog_1_method_27_code 31 = .ok (.aaload, 1) := by decide +kernel
theorem d_HE_findFrame_32 : decode prog_1_method_27_code 32 = .ok (.getfield 198, 3) := by decide +kernel
theorem d_HE_findFrame_35 : decode prog_1_method_27_code 35 = .ok (.iload_n 2, 1) := by decide +kernel
theorem d_HE_findFrame_36 : decode prog_1_method_27_code 36 = .ok (.aaload, 1) := by decide +kernel
theorem d_HE_findFrame_37 : decode prog_1_method_27_code 37 = .ok (.areturn, 1) := by decide +kernel
theorem d_HE_isFirstOfItsEdition_0 : decode prog_1_method_28_code 0 = .ok (.iconst 0, 1) := by decide +kernel
theorem d_HE_isFirstOfItsEdition_1 : decode prog_1_method_28_code 1 = .ok (.istore 4, 2) := by decide +kernel
theorem d_HE_isFirstOfItsEdition_3 : decode prog_1_method_28_code 3 = .ok (.iload 4, 2) := by decide +kernel
theorem d_HE_isFirstOfItsEdition_5 : decode prog_1_method_28_code 5 = .ok (.iload_n 1, 1) := by decide +kernel
theorem d_HE_isFirstOfItsEdition_6 : decode prog_1_method_28_code 6 = .ok (.iconst 5, 1) := by decide +kernel
theorem d_HE_isFirstOfItsEdition_7 : decode prog_1_method_28_code 7 = .ok (.imul, 1) := by decide +kernel
theorem d_HE_isFirstOfItsEdition_8 : decode prog_1_method_28_code 8 = .ok (.iload_n 2, 1) := by decide +kernel
theorem d_HE_isFirstOfItsEdition_9 : decode prog_1_method_28_code 9 = .ok (.iadd, 1) := by decide +kernel
theorem d_HE_isFirstOfItsEdition_10 : decode prog_1_method_28_code 10 = .ok (.if_icmp .ge 54, 3) := by decide +kernel
theorem d_HE_isFirstOfItsEdition_13 : decode prog_1_method_28_code 13 = .ok (.aload_n 0, 1) := by decide +kernel
theorem d_HE_isFirstOfItsEdition_14 : decode prog_1_method_28_code 14 = .ok (.iload 4, 2) := by decide +kernel
theorem d_HE_isFirstOfItsEdition_16 : decode prog_1_method_28_code 16 = .ok (.iconst 5, 1) := by decide +kernel
theorem d_HE_isFirstOfItsEdition_17 : decode prog_1_method_28_code 17 = .ok (.idiv, 1) := by decide +kernel
theorem d_HE_isFirstOfItsEdition_18 : decode prog_1_method_28_code 18 = .ok (.iload 4, 2) := by decide +kernel
theorem d_HE_isFirstOfItsEdition_20 : decode prog_1_method_28_code 20 = .ok (.iconst 5, 1) := by decide +kernel
theorem d_HE_isFirstOfItsEdition_21 : decode prog_1_method_28_code 21 = .ok (.irem, 1) := by decide +kernel
theorem d_HE_isFirstOfItsEdition_22 : decode prog_1_method_28_code 22 = .ok (.invokevirtual 174, 3) := by decide +kernel
theorem d_HE_isFirstOfItsEdition_25 : decode prog_1_method_28_code 25 = .ok (.astore 5, 2) := by decide +kernel
theorem d_HE_isFirstOfItsEdition_27 : decode prog_1_method_28_code 27 = .ok (.aload 5, 2) := by decide +kernel
theorem d_HE_isFirstOfItsEdition_29 : decode prog_1_method_28_code 29 = .ok (.ifnull 29, 3) := by decide +kernel
theorem d_HE_isFirstOfItsEdition_32 : decode prog_1_method_28_code 32 = .ok (.aload 5, 2) := by decide +kernel
theorem d_HE_isFirstOfItsEdition_34 : decode prog_1_method_28_code 34 = .ok (.getfield 183, 3) := by decide +kernel
theorem d_HE_isFirstOfItsEdition_37 : decode prog_1_method_28_code 37 = .ok (.aload_n 3, 1) := by decide +kernel
theorem d_HE_isFirstOfItsEdition_38 : decode prog_1_method_28_code 38 = .ok (.getfield 183, 3) := by decide +kernel
theorem d_HE_isFirstOfItsEdition_41 : decode prog_1_method_28_code 41 = .ok (.if_icmp .ne 17, 3) := by decide +kernel
theorem d_HE_isFirstOfItsEdition_44 : decode prog_1_method_28_code 44 = .ok (.aload 5, 2) := by decide +kernel
theorem d_HE_isFirstOfItsEdition_46 : decode prog_1_method_28_code 46 = .ok (.getfield 178, 3) := by decide +kernel
theorem d_HE_isFirstOfItsEdition_49 : decode prog_1_method_28_code 49 = .ok (.aload_n 3, 1) := by decide +kernel
theorem d_HE_isFirstOfItsEdition_50 : decode prog_1_method_28_code 50 = .ok (.getfield 178, 3) := by decide +kernel
theorem d_HE_isFirstOfItsEdition_53 : decode prog_1_method_28_code 53 = .ok (.if_icmp .ne 5, 3) := by decide +kernel
theorem d_HE_isFirstOfItsEdition_56 : decode prog_1_method_28_code 56 = .ok (.iconst 0, 1) := by decide +kernel
theorem d_HE_isFirstOfItsEdition_57 : decode prog_1_method_28_code 57 = .ok (.ireturn, 1) := by decide +kernel
theorem d_HE_isFirstOfItsEdition_58 : decode prog_1_method_28_code 58 = .ok (.iinc 4 1, 3) := by decide +kernel
theorem d_HE_isFirstOfItsEdition_61 : decode prog_1_method_28_code 61 = .ok (.goto (-58), 3) := by decide +kernel
theorem d_HE_isFirstOfItsEdition_64 : decode prog_1_method_28_code 64 = .ok (.iconst 1, 1) := by decide +kernel
theorem d_HE_isFirstOfItsEdition_65 : decode prog_1_method_28_code 65 = .ok (.ireturn, 1) := by decide +kernel
theorem d_Cl_init_0 : decode prog_2_method_1_code 0 = .ok (.aload_n 0, 1) := by decide +kernel
theorem d_Cl_init_1 : decode prog_2_method_1_code 1 = .ok (.invokespecial 3, 3) := by decide +kernel
theorem d_Cl_init_4 : decode prog_2_method_1_code 4 = .ok (.aload_n 0, 1) := by decide +kernel
theorem d_Cl_init_5 : decode prog_2_method_1_code 5 = .ok (.iconst 5, 1) := by decide +kernel
theorem d_Cl_init_6 : decode prog_2_method_1_code 6 = .ok (.anewarray 9, 3) := by decide +kernel
theorem d_Cl_init_9 : decode prog_2_method_1_code 9 = .ok (.putfield 11, 3) := by decide +kernel
theorem d_Cl_init_12 : decode prog_2_method_1_code 12 = .ok (.aload_n 0, 1) := by decide +kernel
theorem d_Cl_init_13 : decode prog_2_method_1_code 13 = .ok (.iconst 0, 1) := by decide +kernel
theorem d_Cl_init_14 : decode prog_2_method_1_code 14 = .ok (.putfield 17, 3) := by decide +kernel
theorem d_Cl_init_17 : decode prog_2_method_1_code 17 = .ok (.aload_n 0, 1) := by decide +kernel
theorem d_Cl_init_18 : decode prog_2_method_1_code 18 = .ok (.iconst 0, 1) := by decide +kernel
theorem d_Cl_init_19 : decode prog_2_method_1_code 19 = .ok (.putfield 21, 3) := by decide +kernel
theorem d_Cl_init_22 : decode prog_2_method_1_code 22 = .ok (.iconst 0, 1) := by decide +kernel
theorem d_Cl_init_23 : decode prog_2_method_1_code 23 = .ok (.istore_n 1, 1) := by decide +kernel
theorem d_Cl_init_24 : decode prog_2_method_1_code 24 = .ok (.iload_n 1, 1) := by decide +kernel
theorem d_Cl_init_25 : decode prog_2_method_1_code 25 = .ok (.iconst 5, 1) := by decide +kernel
theorem d_Cl_init_26 : decode prog_2_method_1_code 26 = .ok (.if_icmp .ge 22, 3) := by decide +kernel
theorem d_Cl_init_29 : decode prog_2_method_1_code 29 = .ok (.aload_n 0, 1) := by decide +kernel
theorem d_Cl_init_30 : decode prog_2_method_1_code 30 = .ok (.getfield 11, 3) := by decide +kernel
theorem d_Cl_init_33 : decode prog_2_method_1_code 33 = .ok (.iload_n 1, 1) := by decide +kernel
theorem d_Cl_init_34 : decode prog_2_method_1_code 34 = .ok (.new 9, 3) := by decide +kernel
theorem d_Cl_init_37 : decode prog_2_method_1_code 37 = .ok (.dup, 1) := by decide +kernel
theorem d_Cl_init_38 : decode prog_2_method_1_code 38 = .ok (.invokespecial 24, 3) := by decide +kernel
theorem d_Cl_init_41 : decode prog_2_method_1_code 41 = .ok (.aastore, 1) := by decide +kernel
theorem d_Cl_init_42 : decode prog_2_method_1_code 42 = .ok (.iinc 1 1, 3) := by decide +kernel
theorem d_Cl_init_45 : decode prog_2_method_1_code 45 = .ok (.goto (-21), 3) := by decide +kernel
theorem d_Cl_init_48 : decode prog_2_method_1_code 48 = .ok (.return_, 1) := by decide +kernel
theorem d_Cl_enter_0 : decode prog_2_method_2_code 0 = .ok (.aload_n 3, 1) := by decide +kernel
theorem d_Cl_enter_1 : decode prog_2_method_2_code 1 = .ok (.iload_n 1, 1) := by decide +kernel
theorem d_Cl_enter_2 : decode prog_2_method_2_code 2 = .ok (.invokevirtual 25, 3) := by decide +kernel
theorem d_Cl_enter_5 : decode prog_2_method_2_code 5 = .ok (.astore 4, 2) := by decide +kernel
theorem d_Cl_enter_7 : decode prog_2_method_2_code 7 = .ok (.aload_n 0, 1) := by decide +kernel
theorem d_Cl_enter_8 : decode prog_2_method_2_code 8 = .ok (.getfield 17, 3) := by decide +kernel
theorem d_Cl_enter_11 : decode prog_2_method_2_code 11 = .ok (.iconst 5, 1) := by decide +kernel
theorem d_Cl_enter_12 : decode prog_2_method_2_code 12 = .ok (.if_icmp .ge 8, 3) := by decide +kernel
theorem d_Cl_enter_15 : decode prog_2_method_2_code 15 = .ok (.aload 4, 2) := by decide +kernel
theorem d_Cl_enter_17 : decode prog_2_method_2_code 17 = .ok (.ifnonnull 5, 3) := by decide +kernel
theorem d_Cl_enter_20 : decode prog_2_method_2_code 20 = .ok (.iconst 0, 1) := by decide +kernel
theorem d_Cl_enter_21 : decode prog_2_method_2_code 21 = .ok (.ireturn, 1) := by decide +kernel
theorem d_Cl_enter_22 : decode prog_2_method_2_code 22 = .ok (.aload 4, 2) := by decide +kernel
theorem d_Cl_enter_24 : decode prog_2_method_2_code 24 = .ok (.getfield 31, 3) := by decide +kernel
theorem d_Cl_enter_27 : decode prog_2_method_2_code 27 = .ok (.iload_n 2, 1) := by decide +kernel
theorem d_Cl_enter_28 : decode prog_2_method_2_code 28 = .ok (.invokevirtual 37, 3) := by decide +kernel
theorem d_Cl_enter_31 : decode prog_2_method_2_code 31 = .ok (.astore 5, 2) := by decide +kernel
theorem d_Cl_enter_33 : decode prog_2_method_2_code 33 = .ok (.aload 5, 2) := by decide +kernel
theorem d_Cl_enter_35 : decode prog_2_method_2_code 35 = .ok (.ifnonnull 5, 3) := by decide +kernel
theorem d_Cl_enter_38 : decode prog_2_method_2_code 38 = .ok (.iconst 0, 1) := by decide +kernel
theorem d_Cl_enter_39 : decode prog_2_method_2_code 39 = .ok (.ireturn, 1) := by decide +kernel
theorem d_Cl_enter_40 : decode prog_2_method_2_code 40 = .ok (.aload_n 0, 1) := by decide +kernel
theorem d_Cl_enter_41 : decode prog_2_method_2_code 41 = .ok (.getfield 11, 3) := by decide +kernel
theorem d_Cl_enter_44 : decode prog_2_method_2_code 44 = .ok (.aload_n 0, 1) := by decide +kernel
theorem d_Cl_enter_45 : decode prog_2_method_2_code 45 = .ok (.getfield 17, 3) := by decide +kernel
theorem d_Cl_enter_48 : decode prog_2_method_2_code 48 = .ok (.aaload, 1) := by decide +kernel
theorem d_Cl_enter_49 : decode prog_2_method_2_code 49 = .ok (.iload_n 1, 1) := by decide +kernel
theorem d_Cl_enter_50 : decode prog_2_method_2_code 50 = .ok (.aload 4, 2) := by decide +kernel
theorem d_Cl_enter_52 : decode prog_2_method_2_code 52 = .ok (.getfield 43, 3) := by decide +kernel
theorem d_Cl_enter_55 : decode prog_2_method_2_code 55 = .ok (.aload 5, 2) := by decide +kernel
theorem d_Cl_enter_57 : decode prog_2_method_2_code 57 = .ok (.getfield 46, 3) := by decide +kernel
theorem d_Cl_enter_60 : decode prog_2_method_2_code 60 = .ok (.invokevirtual 52, 3) := by decide +kernel
theorem d_Cl_enter_63 : decode prog_2_method_2_code 63 = .ok (.aload_n 0, 1) := by decide +kernel
theorem d_Cl_enter_64 : decode prog_2_method_2_code 64 = .ok (.dup, 1) := by decide +kernel
theorem d_Cl_enter_65 : decode prog_2_method_2_code 65 = .ok (.getfield 17, 3) := by decide +kernel
theorem d_Cl_enter_68 : decode prog_2_method_2_code 68 = .ok (.iconst 1, 1) := by decide +kernel
theorem d_Cl_enter_69 : decode prog_2_method_2_code 69 = .ok (.iadd, 1) := by decide +kernel
theorem d_Cl_enter_70 : decode prog_2_method_2_code 70 = .ok (.putfield 17, 3) := by decide +kernel
theorem d_Cl_enter_73 : decode prog_2_method_2_code 73 = .ok (.iconst 1, 1) := by decide +kernel
theorem d_Cl_enter_74 : decode prog_2_method_2_code 74 = .ok (.ireturn, 1) := by decide +kernel
theorem d_Cl_advance_0 : decode prog_2_method_3_code 0 = .ok (.aload_n 0, 1) := by decide +kernel
theorem d_Cl_advance_1 : decode prog_2_method_3_code 1 = .ok (.getfield 17, 3) := by decide +kernel
theorem d_Cl_advance_4 : decode prog_2_method_3_code 4 = .ok (.ifCond .ne 4, 3) := by decide +kernel
theorem d_Cl_advance_7 : decode prog_2_method_3_code 7 = .ok (.return_, 1) := by decide +kernel
theorem d_Cl_advance_8 : decode prog_2_method_3_code 8 = .ok (.aload_n 0, 1) := by decide +kernel
theorem d_Cl_advance_9 : decode prog_2_method_3_code 9 = .ok (.getfield 11, 3) := by decide +kernel
theorem d_Cl_advance_12 : decode prog_2_method_3_code 12 = .ok (.aload_n 0, 1) := by decide +kernel
theorem d_Cl_advance_13 : decode prog_2_method_3_code 13 = .ok (.getfield 17, 3) := by decide +kernel
theorem d_Cl_advance_16 : decode prog_2_method_3_code 16 = .ok (.iconst 1, 1) := by decide +kernel
theorem d_Cl_advance_17 : decode prog_2_method_3_code 17 = .ok (.isub, 1) := by decide +kernel
theorem d_Cl_advance_18 : decode prog_2_method_3_code 18 = .ok (.aaload, 1) := by decide +kernel
theorem d_Cl_advance_19 : decode prog_2_method_3_code 19 = .ok (.astore_n 2, 1) := by decide +kernel
theorem d_Cl_advance_20 : decode prog_2_method_3_code 20 = .ok (.aload_n 2, 1) := by decide +kernel
theorem d_Cl_advance_21 : decode prog_2_method_3_code 21 = .ok (.getfield 56, 3) := by decide +kernel
theorem d_Cl_advance_24 : decode prog_2_method_3_code 24 = .ok (.aload_n 2, 1) := by decide +kernel
theorem d_Cl_advance_25 : decode prog_2_method_3_code 25 = .ok (.getfield 59, 3) := by decide +kernel
theorem d_Cl_advance_28 : decode prog_2_method_3_code 28 = .ok (.getfield 60, 3) := by decide +kernel
theorem d_Cl_advance_31 : decode prog_2_method_3_code 31 = .ok (.if_icmp .lt 12, 3) := by decide +kernel
theorem d_Cl_advance_34 : decode prog_2_method_3_code 34 = .ok (.aload_n 0, 1) := by decide +kernel
theorem d_Cl_advance_35 : decode prog_2_method_3_code 35 = .ok (.aload_n 2, 1) := by decide +kernel
theorem d_Cl_advance_36 : decode prog_2_method_3_code 36 = .ok (.getfield 65, 3) := by decide +kernel
theorem d_Cl_advance_39 : decode prog_2_method_3_code 39 = .ok (.invokevirtual 68, 3) := by decide +kernel
theorem d_Cl_advance_42 : decode prog_2_method_3_code 42 = .ok (.return_, 1) := by decide +kernel
theorem d_Cl_advance_43 : decode prog_2_method_3_code 43 = .ok (.aload_n 2, 1) := by decide +kernel
theorem d_Cl_advance_44 : decode prog_2_method_3_code 44 = .ok (.getfield 56, 3) := by decide +kernel
theorem d_Cl_advance_47 : decode prog_2_method_3_code 47 = .ok (.istore_n 3, 1) := by decide +kernel
theorem d_Cl_advance_48 : decode prog_2_method_3_code 48 = .ok (.aload_n 2, 1) := by decide +kernel
theorem d_Cl_advance_49 : decode prog_2_method_3_code 49 = .ok (.dup, 1) := by decide +kernel
theorem d_Cl_advance_50 : decode prog_2_method_3_code 50 = .ok (.getfield 56, 3) := by decide +kernel
theorem d_Cl_advance_53 : decode prog_2_method_3_code 53 = .ok (.iconst 1, 1) := by decide +kernel
theorem d_Cl_advance_54 : decode prog_2_method_3_code 54 = .ok (.iadd, 1) := by decide +kernel
theorem d_Cl_advance_55 : decode prog_2_method_3_code 55 = .ok (.putfield 56, 3) := by decide +kernel
theorem d_Cl_advance_58 : decode prog_2_method_3_code 58 = .ok (.aload_n 2, 1) := by decide +kernel
theorem d_Cl_advance_59 : decode prog_2_method_3_code 59 = .ok (.getfield 59, 3) := by decide +kernel
theorem d_Cl_advance_62 : decode prog_2_method_3_code 62 = .ok (.iload_n 3, 1) := by decide +kernel
theorem d_Cl_advance_63 : decode prog_2_method_3_code 63 = .ok (.invokevirtual 72, 3) := by decide +kernel
theorem d_Cl_advance_66 : decode prog_2_method_3_code 66 = .ok (.ifCond .ne 23, 3) := by decide +kernel
theorem d_Cl_advance_69 : decode prog_2_method_3_code 69 = .ok (.aload_n 2, 1) := by decide +kernel
theorem d_Cl_advance_70 : decode prog_2_method_3_code 70 = .ok (.dup, 1) := by decide +kernel
theorem d_Cl_advance_71 : decode prog_2_method_3_code 71 = .ok (.getfield 65, 3) := by decide +kernel
theorem d_Cl_advance_74 : decode prog_2_method_3_code 74 = .ok (.aload_n 2, 1) := by decide +kernel
theorem d_Cl_advance_75 : decode prog_2_method_3_code 75 = .ok (.getfield 59, 3) := by decide +kernel
theorem d_Cl_advance_78 : decode prog_2_method_3_code 78 = .ok (.iload_n 3, 1) := by decide +kernel
theorem d_Cl_advance_79 : decode prog_2_method_3_code 79 = .ok (.invokevirtual 76, 3) := by decide +kernel
theorem d_Cl_advance_82 : decode prog_2_method_3_code 82 = .ok (.iadd, 1) := by decide +kernel
theorem d_Cl_advance_83 : decode prog_2_method_3_code 83 = .ok (.putfield 65, 3) := by decide +kernel
theorem d_Cl_advance_86 : decode prog_2_method_3_code 86 = .ok (.goto 25, 3) := by decide +kernel
theorem d_Cl_advance_89 : decode prog_2_method_3_code 89 = .ok (.aload_n 0, 1) := by decide +kernel
theorem d_Cl_advance_90 : decode prog_2_method_3_code 90 = .ok (.aload_n 2, 1) := by decide +kernel
theorem d_Cl_advance_91 : decode prog_2_method_3_code 91 = .ok (.getfield 59, 3) := by decide +kernel
theorem d_Cl_advance_94 : decode prog_2_method_3_code 94 = .ok (.iload_n 3, 1) := by decide +kernel
theorem d_Cl_advance_95 : decode prog_2_method_3_code 95 = .ok (.invokevirtual 76, 3) := by decide +kernel
theorem d_Cl_advance_98 : decode prog_2_method_3_code 98 = .ok (.aload_n 2, 1) := by decide +kernel
theorem d_Cl_advance_99 : decode prog_2_method_3_code 99 = .ok (.getfield 59, 3) := by decide +kernel
theorem d_Cl_advance_102 : decode prog_2_method_3_code 102 = .ok (.iload_n 3, 1) := by decide +kernel
theorem d_Cl_advance_103 : decode prog_2_method_3_code 103 = .ok (.invokevirtual 79, 3) := by decide +kernel
theorem d_Cl_advance_106 : decode prog_2_method_3_code 106 = .ok (.aload_n 1, 1) := by decide +kernel
theorem d_Cl_advance_107 : decode prog_2_method_3_code 107 = .ok (.invokevirtual 82, 3) := by decide +kernel
theorem d_Cl_advance_110 : decode prog_2_method_3_code 110 = .ok (.pop, 1) := by decide +kernel
theorem d_Cl_advance_111 : decode prog_2_method_3_code 111 = .ok (.return_, 1) := by decide +kernel
theorem d_Cl_leave_0 : decode prog_2_method_4_code 0 = .ok (.aload_n 0, 1) := by decide +kernel
theorem d_Cl_leave_1 : decode prog_2_method_4_code 1 = .ok (.dup, 1) := by decide +kernel
theorem d_Cl_leave_2 : decode prog_2_method_4_code 2 = .ok (.getfield 17, 3) := by decide +kernel
theorem d_Cl_leave_5 : decode prog_2_method_4_code 5 = .ok (.iconst 1, 1) := by decide +kernel
theorem d_Cl_leave_6 : decode prog_2_method_4_code 6 = .ok (.isub, 1) := by decide +kernel
theorem d_Cl_leave_7 : decode prog_2_method_4_code 7 = .ok (.putfield 17, 3) := by decide +kernel
theorem d_Cl_leave_10 : decode prog_2_method_4_code 10 = .ok (.aload_n 0, 1) := by decide +kernel
theorem d_Cl_leave_11 : decode prog_2_method_4_code 11 = .ok (.getfield 17, 3) := by decide +kernel
theorem d_Cl_leave_14 : decode prog_2_method_4_code 14 = .ok (.ifCond .ne 11, 3) := by decide +kernel
theorem d_Cl_leave_17 : decode prog_2_method_4_code 17 = .ok (.aload_n 0, 1) := by decide +kernel
theorem d_Cl_leave_18 : decode prog_2_method_4_code 18 = .ok (.iload_n 1, 1) := by decide +kernel
theorem d_Cl_leave_19 : decode prog_2_method_4_code 19 = .ok (.putfield 21, 3) := by decide +kernel
theorem d_Cl_leave_22 : decode prog_2_method_4_code 22 = .ok (.goto 23, 3) := by decide +kernel
theorem d_Cl_leave_25 : decode prog_2_method_4_code 25 = .ok (.aload_n 0, 1) := by decide +kernel
theorem d_Cl_leave_26 : decode prog_2_method_4_code 26 = .ok (.getfield 11, 3) := by decide +kernel
theorem d_Cl_leave_29 : decode prog_2_method_4_code 29 = .ok (.aload_n 0, 1) := by decide +kernel
theorem d_Cl_leave_30 : decode prog_2_method_4_code 30 = .ok (.getfield 17, 3) := by decide +kernel
theorem d_Cl_leave_33 : decode prog_2_method_4_code 33 = .ok (.iconst 1, 1) := by decide +kernel
theorem d_Cl_leave_34 : decode prog_2_method_4_code 34 = .ok (.isub, 1) := by decide +kernel
theorem d_Cl_leave_35 : decode prog_2_method_4_code 35 = .ok (.aaload, 1) := by decide +kernel
theorem d_Cl_leave_36 : decode prog_2_method_4_code 36 = .ok (.dup, 1) := by decide +kernel
theorem d_Cl_leave_37 : decode prog_2_method_4_code 37 = .ok (.getfield 65, 3) := by decide +kernel
theorem d_Cl_leave_40 : decode prog_2_method_4_code 40 = .ok (.iload_n 1, 1) := by decide +kernel
theorem d_Cl_leave_41 : decode prog_2_method_4_code 41 = .ok (.iadd, 1) := by decide +kernel
theorem d_Cl_leave_42 : decode prog_2_method_4_code 42 = .ok (.putfield 65, 3) := by decide +kernel
theorem d_Cl_leave_45 : decode prog_2_method_4_code 45 = .ok (.return_, 1) := by decide +kernel
theorem d_Ch_init_0 : decode prog_3_method_1_code 0 = .ok (.aload_n 0, 1) := by decide +kernel
theorem d_Ch_init_1 : decode prog_3_method_1_code 1 = .ok (.invokespecial 3, 3) := by decide +kernel
theorem d_Ch_init_4 : decode prog_3_method_1_code 4 = .ok (.aload_n 0, 1) := by decide +kernel
theorem d_Ch_init_5 : decode prog_3_method_1_code 5 = .ok (.iconst 5, 1) := by decide +kernel
theorem d_Ch_init_6 : decode prog_3_method_1_code 6 = .ok (.anewarray 9, 3) := by decide +kernel
theorem d_Ch_init_9 : decode prog_3_method_1_code 9 = .ok (.putfield 11, 3) := by decide +kernel
theorem d_Ch_init_12 : decode prog_3_method_1_code 12 = .ok (.iconst 0, 1) := by decide +kernel
theorem d_Ch_init_13 : decode prog_3_method_1_code 13 = .ok (.istore_n 1, 1) := by decide +kernel
theorem d_Ch_init_14 : decode prog_3_method_1_code 14 = .ok (.iload_n 1, 1) := by decide +kernel
theorem d_Ch_init_15 : decode prog_3_method_1_code 15 = .ok (.iconst 5, 1) := by decide +kernel
theorem d_Ch_init_16 : decode prog_3_method_1_code 16 = .ok (.if_icmp .ge 22, 3) := by decide +kernel
theorem d_Ch_init_19 : decode prog_3_method_1_code 19 = .ok (.aload_n 0, 1) := by decide +kernel
theorem d_Ch_init_20 : decode prog_3_method_1_code 20 = .ok (.getfield 11, 3) := by decide +kernel
theorem d_Ch_init_23 : decode prog_3_method_1_code 23 = .ok (.iload_n 1, 1) := by decide +kernel
theorem d_Ch_init_24 : decode prog_3_method_1_code 24 = .ok (.new 9, 3) := by decide +kernel
theorem d_Ch_init_27 : decode prog_3_method_1_code 27 = .ok (.dup, 1) := by decide +kernel
theorem d_Ch_init_28 : decode prog_3_method_1_code 28 = .ok (.invokespecial 17, 3) := by decide +kernel
theorem d_Ch_init_31 : decode prog_3_method_1_code 31 = .ok (.aastore, 1) := by decide +kernel
theorem d_Ch_init_32 : decode prog_3_method_1_code 32 = .ok (.iinc 1 1, 3) := by decide +kernel
theorem d_Ch_init_35 : decode prog_3_method_1_code 35 = .ok (.goto (-21), 3) := by decide +kernel
theorem d_Ch_init_38 : decode prog_3_method_1_code 38 = .ok (.return_, 1) := by decide +kernel
theorem d_Ch_put_0 : decode prog_3_method_2_code 0 = .ok (.iload_n 1, 1) := by decide +kernel
theorem d_Ch_put_1 : decode prog_3_method_2_code 1 = .ok (.ifCond .lt 8, 3) := by decide +kernel
theorem d_Ch_put_4 : decode prog_3_method_2_code 4 = .ok (.iload_n 1, 1) := by decide +kernel
theorem d_Ch_put_5 : decode prog_3_method_2_code 5 = .ok (.iconst 4, 1) := by decide +kernel
theorem d_Ch_put_6 : decode prog_3_method_2_code 6 = .ok (.if_icmp .le 5, 3) := by decide +kernel
theorem d_Ch_put_9 : decode prog_3_method_2_code 9 = .ok (.iconst (-1), 1) := by decide +kernel
theorem d_Ch_put_10 : decode prog_3_method_2_code 10 = .ok (.ireturn, 1) := by decide +kernel
theorem d_Ch_put_11 : decode prog_3_method_2_code 11 = .ok (.iconst 0, 1) := by decide +kernel
theorem d_Ch_put_12 : decode prog_3_method_2_code 12 = .ok (.istore 5, 2) := by decide +kernel
theorem d_Ch_put_14 : decode prog_3_method_2_code 14 = .ok (.iload 5, 2) := by decide +kernel
theorem d_Ch_put_16 : decode prog_3_method_2_code 16 = .ok (.iconst 5, 1) := by decide +kernel
theorem d_Ch_put_17 : decode prog_3_method_2_code 17 = .ok (.if_icmp .ge 60, 3) := by decide +kernel
theorem d_Ch_put_20 : decode prog_3_method_2_code 20 = .ok (.aload_n 0, 1) := by decide +kernel
theorem d_Ch_put_21 : decode prog_3_method_2_code 21 = .ok (.getfield 11, 3) := by decide +kernel
theorem d_Ch_put_24 : decode prog_3_method_2_code 24 = .ok (.iload 5, 2) := by decide +kernel
theorem d_Ch_put_26 : decode prog_3_method_2_code 26 = .ok (.aaload, 1) := by decide +kernel
theorem d_Ch_put_27 : decode prog_3_method_2_code 27 = .ok (.astore 6, 2) := by decide +kernel
theorem d_Ch_put_29 : decode prog_3_method_2_code 29 = .ok (.aload 6, 2) := by decide +kernel
theorem d_Ch_put_31 : decode prog_3_method_2_code 31 = .ok (.getfield 18, 3) := by decide +kernel
theorem d_Ch_put_34 : decode prog_3_method_2_code 34 = .ok (.ifCond .ne 37, 3) := by decide +kernel
theorem d_Ch_put_37 : decode prog_3_method_2_code 37 = .ok (.aload 6, 2) := by decide +kernel
theorem d_Ch_put_39 : decode prog_3_method_2_code 39 = .ok (.iconst 1, 1) := by decide +kernel
theorem d_Ch_put_40 : decode prog_3_method_2_code 40 = .ok (.putfield 18, 3) := by decide +kernel
theorem d_Ch_put_43 : decode prog_3_method_2_code 43 = .ok (.aload 6, 2) := by decide +kernel
theorem d_Ch_put_45 : decode prog_3_method_2_code 45 = .ok (.iload_n 1, 1) := by decide +kernel
theorem d_Ch_put_46 : decode prog_3_method_2_code 46 = .ok (.putfield 22, 3) := by decide +kernel
theorem d_Ch_put_49 : decode prog_3_method_2_code 49 = .ok (.aload 6, 2) := by decide +kernel
theorem d_Ch_put_51 : decode prog_3_method_2_code 51 = .ok (.iload_n 2, 1) := by decide +kernel
theorem d_Ch_put_52 : decode prog_3_method_2_code 52 = .ok (.putfield 26, 3) := by decide +kernel
theorem d_Ch_put_55 : decode prog_3_method_2_code 55 = .ok (.aload 6, 2) := by decide +kernel
theorem d_Ch_put_57 : decode prog_3_method_2_code 57 = .ok (.iload_n 3, 1) := by decide +kernel
theorem d_Ch_put_58 : decode prog_3_method_2_code 58 = .ok (.putfield 29, 3) := by decide +kernel
theorem d_Ch_put_61 : decode prog_3_method_2_code 61 = .ok (.aload 6, 2) := by decide +kernel
theorem d_Ch_put_63 : decode prog_3_method_2_code 63 = .ok (.iload 4, 2) := by decide +kernel
theorem d_Ch_put_65 : decode prog_3_method_2_code 65 = .ok (.putfield 32, 3) := by decide +kernel
theorem d_Ch_put_68 : decode prog_3_method_2_code 68 = .ok (.iload 5, 2) := by decide +kernel
theorem d_Ch_put_70 : decode prog_3_method_2_code 70 = .ok (.ireturn, 1) := by decide +kernel
theorem d_Ch_put_71 : decode prog_3_method_2_code 71 = .ok (.iinc 5 1, 3) := by decide +kernel
theorem d_Ch_put_74 : decode prog_3_method_2_code 74 = .ok (.goto (-60), 3) := by decide +kernel
theorem d_Ch_put_77 : decode prog_3_method_2_code 77 = .ok (.iconst (-1), 1) := by decide +kernel
theorem d_Ch_put_78 : decode prog_3_method_2_code 78 = .ok (.ireturn, 1) := by decide +kernel
theorem d_Ch_free_0 : decode prog_3_method_3_code 0 = .ok (.iload_n 1, 1) := by decide +kernel
theorem d_Ch_free_1 : decode prog_3_method_3_code 1 = .ok (.ifCond .lt 20, 3) := by decide +kernel
theorem d_Ch_free_4 : decode prog_3_method_3_code 4 = .ok (.iload_n 1, 1) := by decide +kernel
theorem d_Ch_free_5 : decode prog_3_method_3_code 5 = .ok (.iconst 5, 1) := by decide +kernel
theorem d_Ch_free_6 : decode prog_3_method_3_code 6 = .ok (.if_icmp .ge 15, 3) := by decide +kernel
theorem d_Ch_free_9 : decode prog_3_method_3_code 9 = .ok (.aload_n 0, 1) := by decide +kernel
theorem d_Ch_free_10 : decode prog_3_method_3_code 10 = .ok (.getfield 11, 3) := by decide +kernel
theorem d_Ch_free_13 : decode prog_3_method_3_code 13 = .ok (.iload_n 1, 1) := by decide +kernel
theorem d_Ch_free_14 : decode prog_3_method_3_code 14 = .ok (.aaload, 1) := by decide +kernel
theorem d_Ch_free_15 : decode prog_3_method_3_code 15 = .ok (.getfield 18, 3) := by decide +kernel
theorem d_Ch_free_18 : decode prog_3_method_3_code 18 = .ok (.ifCond .ne 5, 3) := by decide +kernel
theorem d_Ch_free_21 : decode prog_3_method_3_code 21 = .ok (.iconst 0, 1) := by decide +kernel
theorem d_Ch_free_22 : decode prog_3_method_3_code 22 = .ok (.ireturn, 1) := by decide +kernel
theorem d_Ch_free_23 : decode prog_3_method_3_code 23 = .ok (.aload_n 0, 1) := by decide +kernel
theorem d_Ch_free_24 : decode prog_3_method_3_code 24 = .ok (.getfield 11, 3) := by decide +kernel
theorem d_Ch_free_27 : decode prog_3_method_3_code 27 = .ok (.iload_n 1, 1) := by decide +kernel
theorem d_Ch_free_28 : decode prog_3_method_3_code 28 = .ok (.aaload, 1) := by decide +kernel
theorem d_Ch_free_29 : decode prog_3_method_3_code 29 = .ok (.iconst 0, 1) := by decide +kernel
theorem d_Ch_free_30 : decode prog_3_method_3_code 30 = .ok (.putfield 18, 3) := by decide +kernel
theorem d_Ch_free_33 : decode prog_3_method_3_code 33 = .ok (.iconst 1, 1) := by decide +kernel
theorem d_Ch_free_34 : decode prog_3_method_3_code 34 = .ok (.ireturn, 1) := by decide +kernel
theorem d_Ch_treat_0 : decode prog_3_method_4_code 0 = .ok (.aload_n 0, 1) := by decide +kernel
theorem d_Ch_treat_1 : decode prog_3_method_4_code 1 = .ok (.aload_n 1, 1) := by decide +kernel
theorem d_Ch_treat_2 : decode prog_3_method_4_code 2 = .ok (.getfield 35, 3) := by decide +kernel
theorem d_Ch_treat_5 : decode prog_3_method_4_code 5 = .ok (.aload_n 1, 1) := by decide +kernel
theorem d_Ch_treat_6 : decode prog_3_method_4_code 6 = .ok (.getfield 41, 3) := by decide +kernel
theorem d_Ch_treat_9 : decode prog_3_method_4_code 9 = .ok (.iconst 0, 1) := by decide +kernel
theorem d_Ch_treat_10 : decode prog_3_method_4_code 10 = .ok (.invokevirtual 44, 3) := by decide +kernel
theorem d_Ch_treat_13 : decode prog_3_method_4_code 13 = .ok (.aload_n 1, 1) := by decide +kernel
theorem d_Ch_treat_14 : decode prog_3_method_4_code 14 = .ok (.getfield 48, 3) := by decide +kernel
theorem d_Ch_treat_17 : decode prog_3_method_4_code 17 = .ok (.aload_n 1, 1) := by decide +kernel
theorem d_Ch_treat_18 : decode prog_3_method_4_code 18 = .ok (.getfield 35, 3) := by decide +kernel
theorem d_Ch_treat_21 : decode prog_3_method_4_code 21 = .ok (.invokevirtual 51, 3) := by decide +kernel
theorem d_Ch_treat_24 : decode prog_3_method_4_code 24 = .ok (.aload_n 0, 1) := by decide +kernel
theorem d_Ch_treat_25 : decode prog_3_method_4_code 25 = .ok (.aload_n 1, 1) := by decide +kernel
theorem d_Ch_treat_26 : decode prog_3_method_4_code 26 = .ok (.getfield 35, 3) := by decide +kernel
theorem d_Ch_treat_29 : decode prog_3_method_4_code 29 = .ok (.aload_n 1, 1) := by decide +kernel
theorem d_Ch_treat_30 : decode prog_3_method_4_code 30 = .ok (.getfield 41, 3) := by decide +kernel
theorem d_Ch_treat_33 : decode prog_3_method_4_code 33 = .ok (.iconst 1, 1) := by decide +kernel
theorem d_Ch_treat_34 : decode prog_3_method_4_code 34 = .ok (.invokevirtual 44, 3) := by decide +kernel
theorem d_Ch_treat_37 : decode prog_3_method_4_code 37 = .ok (.return_, 1) := by decide +kernel
theorem d_Ch_change_0 : decode prog_3_method_5_code 0 = .ok (.iconst 0, 1) := by decide +kernel
theorem d_Ch_change_1 : decode prog_3_method_5_code 1 = .ok (.istore 4, 2) := by decide +kernel
theorem d_Ch_change_3 : decode prog_3_method_5_code 3 = .ok (.iload 4, 2) := by decide +kernel
theorem d_Ch_change_5 : decode prog_3_method_5_code 5 = .ok (.iconst 5, 1) := by decide +kernel
theorem d_Ch_change_6 : decode prog_3_method_5_code 6 = .ok (.if_icmp .ge 50, 3) := by decide +kernel
theorem d_Ch_change_9 : decode prog_3_method_5_code 9 = .ok (.aload_n 0, 1) := by decide +kernel
theorem d_Ch_change_10 : decode prog_3_method_5_code 10 = .ok (.getfield 11, 3) := by decide +kernel
theorem d_Ch_change_13 : decode prog_3_method_5_code 13 = .ok (.iload 4, 2) := by decide +kernel
theorem d_Ch_change_15 : decode prog_3_method_5_code 15 = .ok (.aaload, 1) := by decide +kernel
theorem d_Ch_change_16 : decode prog_3_method_5_code 16 = .ok (.astore 5, 2) := by decide +kernel
theorem d_Ch_change_18 : decode prog_3_method_5_code 18 = .ok (.aload 5, 2) := by decide +kernel
theorem d_Ch_change_20 : decode prog_3_method_5_code 20 = .ok (.getfield 18, 3) := by decide +kernel
theorem d_Ch_change_23 : decode prog_3_method_5_code 23 = .ok (.ifCond .eq 27, 3) := by decide +kernel
theorem d_Ch_change_26 : decode prog_3_method_5_code 26 = .ok (.aload 5, 2) := by decide +kernel
theorem d_Ch_change_28 : decode prog_3_method_5_code 28 = .ok (.getfield 32, 3) := by decide +kernel
theorem d_Ch_change_31 : decode prog_3_method_5_code 31 = .ok (.iload_n 3, 1) := by decide +kernel
theorem d_Ch_change_32 : decode prog_3_method_5_code 32 = .ok (.if_icmp .ne 18, 3) := by decide +kernel
theorem d_Ch_change_35 : decode prog_3_method_5_code 35 = .ok (.aload 5, 2) := by decide +kernel
theorem d_Ch_change_37 : decode prog_3_method_5_code 37 = .ok (.iload_n 2, 1) := by decide +kernel
theorem d_Ch_change_38 : decode prog_3_method_5_code 38 = .ok (.invokevirtual 57, 3) := by decide +kernel
theorem d_Ch_change_41 : decode prog_3_method_5_code 41 = .ok (.ifCond .eq 9, 3) := by decide +kernel
theorem d_Ch_change_44 : decode prog_3_method_5_code 44 = .ok (.aload 5, 2) := by decide +kernel
theorem d_Ch_change_46 : decode prog_3_method_5_code 46 = .ok (.aload_n 1, 1) := by decide +kernel
theorem d_Ch_change_47 : decode prog_3_method_5_code 47 = .ok (.invokevirtual 61, 3) := by decide +kernel
theorem d_Ch_change_50 : decode prog_3_method_5_code 50 = .ok (.iinc 4 1, 3) := by decide +kernel
theorem d_Ch_change_53 : decode prog_3_method_5_code 53 = .ok (.goto (-50), 3) := by decide +kernel
theorem d_Ch_change_56 : decode prog_3_method_5_code 56 = .ok (.return_, 1) := by decide +kernel
theorem d_Cd_init_0 : decode prog_4_method_1_code 0 = .ok (.aload_n 0, 1) := by decide +kernel
theorem d_Cd_init_1 : decode prog_4_method_1_code 1 = .ok (.invokespecial 3, 3) := by decide +kernel
theorem d_Cd_init_4 : decode prog_4_method_1_code 4 = .ok (.aload_n 0, 1) := by decide +kernel
theorem d_Cd_init_5 : decode prog_4_method_1_code 5 = .ok (.bipush 18, 2) := by decide +kernel
theorem d_Cd_init_7 : decode prog_4_method_1_code 7 = .ok (.newarray .int, 2) := by decide +kernel
theorem d_Cd_init_9 : decode prog_4_method_1_code 9 = .ok (.putfield 11, 3) := by decide +kernel
theorem d_Cd_init_12 : decode prog_4_method_1_code 12 = .ok (.aload_n 0, 1) := by decide +kernel
theorem d_Cd_init_13 : decode prog_4_method_1_code 13 = .ok (.iconst 0, 1) := by decide +kernel
theorem d_Cd_init_14 : decode prog_4_method_1_code 14 = .ok (.putfield 15, 3) := by decide +kernel
theorem d_Cd_init_17 : decode prog_4_method_1_code 17 = .ok (.return_, 1) := by decide +kernel
theorem d_Cd_clear_0 : decode prog_4_method_2_code 0 = .ok (.aload_n 0, 1) := by decide +kernel
theorem d_Cd_clear_1 : decode prog_4_method_2_code 1 = .ok (.iconst 0, 1) := by decide +kernel
theorem d_Cd_clear_2 : decode prog_4_method_2_code 2 = .ok (.putfield 15, 3) := by decide +kernel
theorem d_Cd_clear_5 : decode prog_4_method_2_code 5 = .ok (.return_, 1) := by decide +kernel
theorem d_Cd_become_0 : decode prog_4_method_3_code 0 = .ok (.aload_n 0, 1) := by decide +kernel
theorem d_Cd_become_1 : decode prog_4_method_3_code 1 = .ok (.aload_n 1, 1) := by decide +kernel
theorem d_Cd_become_2 : decode prog_4_method_3_code 2 = .ok (.getfield 15, 3) := by decide +kernel
theorem d_Cd_become_5 : decode prog_4_method_3_code 5 = .ok (.putfield 15, 3) := by decide +kernel
theorem d_Cd_become_8 : decode prog_4_method_3_code 8 = .ok (.aload_n 1, 1) := by decide +kernel
theorem d_Cd_become_9 : decode prog_4_method_3_code 9 = .ok (.getfield 11, 3) := by decide +kernel
theorem d_Cd_become_12 : decode prog_4_method_3_code 12 = .ok (.iconst 0, 1) := by decide +kernel
theorem d_Cd_become_13 : decode prog_4_method_3_code 13 = .ok (.aload_n 0, 1) := by decide +kernel
theorem d_Cd_become_14 : decode prog_4_method_3_code 14 = .ok (.getfield 11, 3) := by decide +kernel
theorem d_Cd_become_17 : decode prog_4_method_3_code 17 = .ok (.iconst 0, 1) := by decide +kernel
theorem d_Cd_become_18 : decode prog_4_method_3_code 18 = .ok (.aload_n 0, 1) := by decide +kernel
theorem d_Cd_become_19 : decode prog_4_method_3_code 19 = .ok (.getfield 15, 3) := by decide +kernel
theorem d_Cd_become_22 : decode prog_4_method_3_code 22 = .ok (.iconst 3, 1) := by decide +kernel
theorem d_Cd_become_23 : decode prog_4_method_3_code 23 = .ok (.imul, 1) := by decide +kernel
theorem d_Cd_become_24 : decode prog_4_method_3_code 24 = .ok (.invokestatic 19, 3) := by decide +kernel
theorem d_Cd_become_27 : decode prog_4_method_3_code 27 = .ok (.return_, 1) := by decide +kernel
theorem d_Cd_add_0 : decode prog_4_method_4_code 0 = .ok (.aload_n 0, 1) := by decide +kernel
theorem d_Cd_add_1 : decode prog_4_method_4_code 1 = .ok (.getfield 15, 3) := by decide +kernel
theorem d_Cd_add_4 : decode prog_4_method_4_code 4 = .ok (.bipush 6, 2) := by decide +kernel
theorem d_Cd_add_6 : decode prog_4_method_4_code 6 = .ok (.if_icmp .lt 5, 3) := by decide +kernel
theorem d_Cd_add_9 : decode prog_4_method_4_code 9 = .ok (.iconst 0, 1) := by decide +kernel
theorem d_Cd_add_10 : decode prog_4_method_4_code 10 = .ok (.ireturn, 1) := by decide +kernel
theorem d_Cd_add_11 : decode prog_4_method_4_code 11 = .ok (.aload_n 0, 1) := by decide +kernel
theorem d_Cd_add_12 : decode prog_4_method_4_code 12 = .ok (.getfield 11, 3) := by decide +kernel
theorem d_Cd_add_15 : decode prog_4_method_4_code 15 = .ok (.aload_n 0, 1) := by decide +kernel
theorem d_Cd_add_16 : decode prog_4_method_4_code 16 = .ok (.getfield 15, 3) := by decide +kernel
theorem d_Cd_add_19 : decode prog_4_method_4_code 19 = .ok (.iconst 3, 1) := by decide +kernel
theorem d_Cd_add_20 : decode prog_4_method_4_code 20 = .ok (.imul, 1) := by decide +kernel
theorem d_Cd_add_21 : decode prog_4_method_4_code 21 = .ok (.iload_n 1, 1) := by decide +kernel
theorem d_Cd_add_22 : decode prog_4_method_4_code 22 = .ok (.iastore, 1) := by decide +kernel
theorem d_Cd_add_23 : decode prog_4_method_4_code 23 = .ok (.aload_n 0, 1) := by decide +kernel
theorem d_Cd_add_24 : decode prog_4_method_4_code 24 = .ok (.getfield 11, 3) := by decide +kernel
theorem d_Cd_add_27 : decode prog_4_method_4_code 27 = .ok (.aload_n 0, 1) := by decide +kernel
theorem d_Cd_add_28 : decode prog_4_method_4_code 28 = .ok (.getfield 15, 3) := by decide +kernel
theorem d_Cd_add_31 : decode prog_4_method_4_code 31 = .ok (.iconst 3, 1) := by decide +kernel
theorem d_Cd_add_32 : decode prog_4_method_4_code 32 = .ok (.imul, 1) := by decide +kernel
theorem d_Cd_add_33 : decode prog_4_method_4_code 33 = .ok (.iconst 1, 1) := by decide +kernel
theorem d_Cd_add_34 : decode prog_4_method_4_code 34 = .ok (.iadd, 1) := by decide +kernel
theorem d_Cd_add_35 : decode prog_4_method_4_code 35 = .ok (.iload_n 2, 1) := by decide +kernel
theorem d_Cd_add_36 : decode prog_4_method_4_code 36 = .ok (.iastore, 1) := by decide +kernel
theorem d_Cd_add_37 : decode prog_4_method_4_code 37 = .ok (.aload_n 0, 1) := by decide +kernel
theorem d_Cd_add_38 : decode prog_4_method_4_code 38 = .ok (.getfield 11, 3) := by decide +kernel
theorem d_Cd_add_41 : decode prog_4_method_4_code 41 = .ok (.aload_n 0, 1) := by decide +kernel
theorem d_Cd_add_42 : decode prog_4_method_4_code 42 = .ok (.getfield 15, 3) := by decide +kernel
theorem d_Cd_add_45 : decode prog_4_method_4_code 45 = .ok (.iconst 3, 1) := by decide +kernel
theorem d_Cd_add_46 : decode prog_4_method_4_code 46 = .ok (.imul, 1) := by decide +kernel
theorem d_Cd_add_47 : decode prog_4_method_4_code 47 = .ok (.iconst 2, 1) := by decide +kernel
theorem d_Cd_add_48 : decode prog_4_method_4_code 48 = .ok (.iadd, 1) := by decide +kernel
theorem d_Cd_add_49 : decode prog_4_method_4_code 49 = .ok (.iload_n 3, 1) := by decide +kernel
theorem d_Cd_add_50 : decode prog_4_method_4_code 50 = .ok (.iastore, 1) := by decide +kernel
theorem d_Cd_add_51 : decode prog_4_method_4_code 51 = .ok (.aload_n 0, 1) := by decide +kernel
theorem d_Cd_add_52 : decode prog_4_method_4_code 52 = .ok (.dup, 1) := by decide +kernel
theorem d_Cd_add_53 : decode prog_4_method_4_code 53 = .ok (.getfield 15, 3) := by decide +kernel
theorem d_Cd_add_56 : decode prog_4_method_4_code 56 = .ok (.iconst 1, 1) := by decide +kernel
theorem d_Cd_add_57 : decode prog_4_method_4_code 57 = .ok (.iadd, 1) := by decide +kernel
theorem d_Cd_add_58 : decode prog_4_method_4_code 58 = .ok (.putfield 15, 3) := by decide +kernel
theorem d_Cd_add_61 : decode prog_4_method_4_code 61 = .ok (.iconst 1, 1) := by decide +kernel
theorem d_Cd_add_62 : decode prog_4_method_4_code 62 = .ok (.ireturn, 1) := by decide +kernel
theorem d_Cd_opAt_0 : decode prog_4_method_5_code 0 = .ok (.aload_n 0, 1) := by decide +kernel
theorem d_Cd_opAt_1 : decode prog_4_method_5_code 1 = .ok (.getfield 11, 3) := by decide +kernel
theorem d_Cd_opAt_4 : decode prog_4_method_5_code 4 = .ok (.iload_n 1, 1) := by decide +kernel
theorem d_Cd_opAt_5 : decode prog_4_method_5_code 5 = .ok (.iconst 3, 1) := by decide +kernel
theorem d_Cd_opAt_6 : decode prog_4_method_5_code 6 = .ok (.imul, 1) := by decide +kernel
theorem d_Cd_opAt_7 : decode prog_4_method_5_code 7 = .ok (.iaload, 1) := by decide +kernel
theorem d_Cd_opAt_8 : decode prog_4_method_5_code 8 = .ok (.ireturn, 1) := by decide +kernel
theorem d_Cd_firstOperandAt_0 : decode prog_4_method_6_code 0 = .ok (.aload_n 0, 1) := by decide +kernel
theorem d_Cd_firstOperandAt_1 : decode prog_4_method_6_code 1 = .ok (.getfield 11, 3) := by decide +kernel
theorem d_Cd_firstOperandAt_4 : decode prog_4_method_6_code 4 = .ok (.iload_n 1, 1) := by decide +kernel
theorem d_Cd_firstOperandAt_5 : decode prog_4_method_6_code 5 = .ok (.iconst 3, 1) := by decide +kernel
theorem d_Cd_firstOperandAt_6 : decode prog_4_method_6_code 6 = .ok (.imul, 1) := by decide +kernel
theorem d_Cd_firstOperandAt_7 : decode prog_4_method_6_code 7 = .ok (.iconst 1, 1) := by decide +kernel
theorem d_Cd_firstOperandAt_8 : decode prog_4_method_6_code 8 = .ok (.iadd, 1) := by decide +kernel
theorem d_Cd_firstOperandAt_9 : decode prog_4_method_6_code 9 = .ok (.iaload, 1) := by decide +kernel
theorem d_Cd_firstOperandAt_10 : decode prog_4_method_6_code 10 = .ok (.ireturn, 1) := by decide +kernel
theorem d_Cd_secondOperandAt_0 : decode prog_4_method_7_code 0 = .ok (.aload_n 0, 1) := by decide +kernel
theorem d_Cd_secondOperandAt_1 : decode prog_4_method_7_code 1 = .ok (.getfield 11, 3) := by decide +kernel
theorem d_Cd_secondOperandAt_4 : decode prog_4_method_7_code 4 = .ok (.iload_n 1, 1) := by decide +kernel
theorem d_Cd_secondOperandAt_5 : decode prog_4_method_7_code 5 = .ok (.iconst 3, 1) := by decide +kernel
theorem d_Cd_secondOperandAt_6 : decode prog_4_method_7_code 6 = .ok (.imul, 1) := by decide +kernel
theorem d_Cd_secondOperandAt_7 : decode prog_4_method_7_code 7 = .ok (.iconst 2, 1) := by decide +kernel
theorem d_Cd_secondOperandAt_8 : decode prog_4_method_7_code 8 = .ok (.iadd, 1) := by decide +kernel
theorem d_Cd_secondOperandAt_9 : decode prog_4_method_7_code 9 = .ok (.iaload, 1) := by decide +kernel
theorem d_Cd_secondOperandAt_10 : decode prog_4_method_7_code 10 = .ok (.ireturn, 1) := by decide +kernel
theorem d_Cd_raiseAdditions_0 : decode prog_4_method_8_code 0 = .ok (.iconst 0, 1) := by decide +kernel
theorem d_Cd_raiseAdditions_1 : decode prog_4_method_8_code 1 = .ok (.istore_n 2, 1) := by decide +kernel
theorem d_Cd_raiseAdditions_2 : decode prog_4_method_8_code 2 = .ok (.iload_n 2, 1) := by decide +kernel
theorem d_Cd_raiseAdditions_3 : decode prog_4_method_8_code 3 = .ok (.aload_n 0, 1) := by decide +kernel
theorem d_Cd_raiseAdditions_4 : decode prog_4_method_8_code 4 = .ok (.getfield 15, 3) := by decide +kernel
theorem d_Cd_raiseAdditions_7 : decode prog_4_method_8_code 7 = .ok (.if_icmp .ge 31, 3) := by decide +kernel
theorem d_Cd_raiseAdditions_10 : decode prog_4_method_8_code 10 = .ok (.aload_n 0, 1) := by decide +kernel
theorem d_Cd_raiseAdditions_11 : decode prog_4_method_8_code 11 = .ok (.iload_n 2, 1) := by decide +kernel
theorem d_Cd_raiseAdditions_12 : decode prog_4_method_8_code 12 = .ok (.invokevirtual 25, 3) := by decide +kernel
theorem d_Cd_raiseAdditions_15 : decode prog_4_method_8_code 15 = .ok (.ifCond .ne 17, 3) := by decide +kernel
theorem d_Cd_raiseAdditions_18 : decode prog_4_method_8_code 18 = .ok (.aload_n 0, 1) := by decide +kernel
theorem d_Cd_raiseAdditions_19 : decode prog_4_method_8_code 19 = .ok (.getfield 11, 3) := by decide +kernel
theorem d_Cd_raiseAdditions_22 : decode prog_4_method_8_code 22 = .ok (.iload_n 2, 1) := by decide +kernel
theorem d_Cd_raiseAdditions_23 : decode prog_4_method_8_code 23 = .ok (.iconst 3, 1) := by decide +kernel
theorem d_Cd_raiseAdditions_24 : decode prog_4_method_8_code 24 = .ok (.imul, 1) := by decide +kernel
theorem d_Cd_raiseAdditions_25 : decode prog_4_method_8_code 25 = .ok (.iconst 1, 1) := by decide +kernel
theorem d_Cd_raiseAdditions_26 : decode prog_4_method_8_code 26 = .ok (.iadd, 1) := by decide +kernel
theorem d_Cd_raiseAdditions_27 : decode prog_4_method_8_code 27 = .ok (.dup2, 1) := by decide +kernel
theorem d_Cd_raiseAdditions_28 : decode prog_4_method_8_code 28 = .ok (.iaload, 1) := by decide +kernel
theorem d_Cd_raiseAdditions_29 : decode prog_4_method_8_code 29 = .ok (.iload_n 1, 1) := by decide +kernel
theorem d_Cd_raiseAdditions_30 : decode prog_4_method_8_code 30 = .ok (.iadd, 1) := by decide +kernel
theorem d_Cd_raiseAdditions_31 : decode prog_4_method_8_code 31 = .ok (.iastore, 1) := by decide +kernel
theorem d_Cd_raiseAdditions_32 : decode prog_4_method_8_code 32 = .ok (.iinc 2 1, 3) := by decide +kernel
theorem d_Cd_raiseAdditions_35 : decode prog_4_method_8_code 35 = .ok (.goto (-33), 3) := by decide +kernel
theorem d_Cd_raiseAdditions_38 : decode prog_4_method_8_code 38 = .ok (.return_, 1) := by decide +kernel
theorem d_Df_init_0 : decode prog_5_method_1_code 0 = .ok (.aload_n 0, 1) := by decide +kernel
theorem d_Df_init_1 : decode prog_5_method_1_code 1 = .ok (.invokespecial 3, 3) := by decide +kernel
theorem d_Df_init_4 : decode prog_5_method_1_code 4 = .ok (.aload_n 0, 1) := by decide +kernel
theorem d_Df_init_5 : decode prog_5_method_1_code 5 = .ok (.iconst 5, 1) := by decide +kernel
theorem d_Df_init_6 : decode prog_5_method_1_code 6 = .ok (.newarray .int, 2) := by decide +kernel
theorem d_Df_init_8 : decode prog_5_method_1_code 8 = .ok (.putfield 9, 3) := by decide +kernel
theorem d_Df_init_11 : decode prog_5_method_1_code 11 = .ok (.aload_n 0, 1) := by decide +kernel
theorem d_Df_init_12 : decode prog_5_method_1_code 12 = .ok (.iconst 3, 1) := by decide +kernel
theorem d_Df_init_13 : decode prog_5_method_1_code 13 = .ok (.newarray .int, 2) := by decide +kernel
theorem d_Df_init_15 : decode prog_5_method_1_code 15 = .ok (.putfield 15, 3) := by decide +kernel
theorem d_Df_init_18 : decode prog_5_method_1_code 18 = .ok (.aload_n 0, 1) := by decide +kernel
theorem d_Df_init_19 : decode prog_5_method_1_code 19 = .ok (.iconst 0, 1) := by decide +kernel
theorem d_Df_init_20 : decode prog_5_method_1_code 20 = .ok (.putfield 18, 3) := by decide +kernel
theorem d_Df_init_23 : decode prog_5_method_1_code 23 = .ok (.aload_n 0, 1) := by decide +kernel
theorem d_Df_init_24 : decode prog_5_method_1_code 24 = .ok (.bipush 12, 2) := by decide +kernel
theorem d_Df_init_26 : decode prog_5_method_1_code 26 = .ok (.newarray .int, 2) := by decide +kernel
theorem d_Df_init_28 : decode prog_5_method_1_code 28 = .ok (.putfield 22, 3) := by decide +kernel
theorem d_Df_init_31 : decode prog_5_method_1_code 31 = .ok (.aload_n 0, 1) := by decide +kernel
theorem d_Df_init_32 : decode prog_5_method_1_code 32 = .ok (.iconst 0, 1) := by decide +kernel
theorem d_Df_init_33 : decode prog_5_method_1_code 33 = .ok (.putfield 25, 3) := by decide +kernel
theorem d_Df_init_36 : decode prog_5_method_1_code 36 = .ok (.aload_n 0, 1) := by decide +kernel
theorem d_Df_init_37 : decode prog_5_method_1_code 37 = .ok (.iconst 4, 1) := by decide +kernel
theorem d_Df_init_38 : decode prog_5_method_1_code 38 = .ok (.anewarray 28, 3) := by decide +kernel
theorem d_Df_init_41 : decode prog_5_method_1_code 41 = .ok (.putfield 30, 3) := by decide +kernel
theorem d_Df_init_44 : decode prog_5_method_1_code 44 = .ok (.aload_n 0, 1) := by decide +kernel
theorem d_Df_init_45 : decode prog_5_method_1_code 45 = .ok (.iconst 0, 1) := by decide +kernel
theorem d_Df_init_46 : decode prog_5_method_1_code 46 = .ok (.putfield 34, 3) := by decide +kernel
theorem d_Df_init_49 : decode prog_5_method_1_code 49 = .ok (.iconst 0, 1) := by decide +kernel
theorem d_Df_init_50 : decode prog_5_method_1_code 50 = .ok (.istore_n 1, 1) := by decide +kernel
theorem d_Df_init_51 : decode prog_5_method_1_code 51 = .ok (.iload_n 1, 1) := by decide +kernel
theorem d_Df_init_52 : decode prog_5_method_1_code 52 = .ok (.iconst 4, 1) := by decide +kernel
theorem d_Df_init_53 : decode prog_5_method_1_code 53 = .ok (.if_icmp .ge 22, 3) := by decide +kernel
theorem d_Df_init_56 : decode prog_5_method_1_code 56 = .ok (.aload_n 0, 1) := by decide +kernel
theorem d_Df_init_57 : decode prog_5_method_1_code 57 = .ok (.getfield 30, 3) := by decide +kernel
theorem d_Df_init_60 : decode prog_5_method_1_code 60 = .ok (.iload_n 1, 1) := by decide +kernel
theorem d_Df_init_61 : decode prog_5_method_1_code 61 = .ok (.new 28, 3) := by decide +kernel
theorem d_Df_init_64 : decode prog_5_method_1_code 64 = .ok (.dup, 1) := by decide +kernel
theorem d_Df_init_65 : decode prog_5_method_1_code 65 = .ok (.invokespecial 37, 3) := by decide +kernel
theorem d_Df_init_68 : decode prog_5_method_1_code 68 = .ok (.aastore, 1) := by decide +kernel
theorem d_Df_init_69 : decode prog_5_method_1_code 69 = .ok (.iinc 1 1, 3) := by decide +kernel
theorem d_Df_init_72 : decode prog_5_method_1_code 72 = .ok (.goto (-21), 3) := by decide +kernel
theorem d_Df_init_75 : decode prog_5_method_1_code 75 = .ok (.aload_n 0, 1) := by decide +kernel
theorem d_Df_init_76 : decode prog_5_method_1_code 76 = .ok (.invokevirtual 38, 3) := by decide +kernel
theorem d_Df_init_79 : decode prog_5_method_1_code 79 = .ok (.return_, 1) := by decide +kernel
theorem d_Df_clear_0 : decode prog_5_method_2_code 0 = .ok (.aload_n 0, 1) := by decide +kernel
theorem d_Df_clear_1 : decode prog_5_method_2_code 1 = .ok (.getfield 9, 3) := by decide +kernel
theorem d_Df_clear_4 : decode prog_5_method_2_code 4 = .ok (.iconst 0, 1) := by decide +kernel
theorem d_Df_clear_5 : decode prog_5_method_2_code 5 = .ok (.iconst 1, 1) := by decide +kernel
theorem d_Df_clear_6 : decode prog_5_method_2_code 6 = .ok (.iastore, 1) := by decide +kernel
theorem d_Df_clear_7 : decode prog_5_method_2_code 7 = .ok (.aload_n 0, 1) := by decide +kernel
theorem d_Df_clear_8 : decode prog_5_method_2_code 8 = .ok (.getfield 9, 3) := by decide +kernel
theorem d_Df_clear_11 : decode prog_5_method_2_code 11 = .ok (.iconst 1, 1) := by decide +kernel
theorem d_Df_clear_12 : decode prog_5_method_2_code 12 = .ok (.iconst 0, 1) := by decide +kernel
theorem d_Df_clear_13 : decode prog_5_method_2_code 13 = .ok (.iastore, 1) := by decide +kernel
theorem d_Df_clear_14 : decode prog_5_method_2_code 14 = .ok (.aload_n 0, 1) := by decide +kernel
theorem d_Df_clear_15 : decode prog_5_method_2_code 15 = .ok (.getfield 9, 3) := by decide +kernel
theorem d_Df_clear_18 : decode prog_5_method_2_code 18 = .ok (.iconst 2, 1) := by decide +kernel
theorem d_Df_clear_19 : decode prog_5_method_2_code 19 = .ok (.iconst (-1), 1) := by decide +kernel
theorem d_Df_clear_20 : decode prog_5_method_2_code 20 = .ok (.iastore, 1) := by decide +kernel
theorem d_Df_clear_21 : decode prog_5_method_2_code 21 = .ok (.aload_n 0, 1) := by decide +kernel
theorem d_Df_clear_22 : decode prog_5_method_2_code 22 = .ok (.getfield 9, 3) := by decide +kernel
theorem d_Df_clear_25 : decode prog_5_method_2_code 25 = .ok (.iconst 3, 1) := by decide +kernel
theorem d_Df_clear_26 : decode prog_5_method_2_code 26 = .ok (.iconst 0, 1) := by decide +kernel
theorem d_Df_clear_27 : decode prog_5_method_2_code 27 = .ok (.iastore, 1) := by decide +kernel
theorem d_Df_clear_28 : decode prog_5_method_2_code 28 = .ok (.aload_n 0, 1) := by decide +kernel
theorem d_Df_clear_29 : decode prog_5_method_2_code 29 = .ok (.getfield 9, 3) := by decide +kernel
theorem d_Df_clear_32 : decode prog_5_method_2_code 32 = .ok (.iconst 4, 1) := by decide +kernel
theorem d_Df_clear_33 : decode prog_5_method_2_code 33 = .ok (.iconst 0, 1) := by decide +kernel
theorem d_Df_clear_34 : decode prog_5_method_2_code 34 = .ok (.iastore, 1) := by decide +kernel
theorem d_Df_clear_35 : decode prog_5_method_2_code 35 = .ok (.aload_n 0, 1) := by decide +kernel
theorem d_Df_clear_36 : decode prog_5_method_2_code 36 = .ok (.iconst 0, 1) := by decide +kernel
theorem d_Df_clear_37 : decode prog_5_method_2_code 37 = .ok (.putfield 18, 3) := by decide +kernel
theorem d_Df_clear_40 : decode prog_5_method_2_code 40 = .ok (.aload_n 0, 1) := by decide +kernel
theorem d_Df_clear_41 : decode prog_5_method_2_code 41 = .ok (.iconst 0, 1) := by decide +kernel
theorem d_Df_clear_42 : decode prog_5_method_2_code 42 = .ok (.putfield 25, 3) := by decide +kernel
theorem d_Df_clear_45 : decode prog_5_method_2_code 45 = .ok (.aload_n 0, 1) := by decide +kernel
theorem d_Df_clear_46 : decode prog_5_method_2_code 46 = .ok (.iconst 0, 1) := by decide +kernel
theorem d_Df_clear_47 : decode prog_5_method_2_code 47 = .ok (.putfield 34, 3) := by decide +kernel
theorem d_Df_clear_50 : decode prog_5_method_2_code 50 = .ok (.return_, 1) := by decide +kernel
theorem d_Df_become_0 : decode prog_5_method_3_code 0 = .ok (.aload_n 1, 1) := by decide +kernel
theorem d_Df_become_1 : decode prog_5_method_3_code 1 = .ok (.getfield 9, 3) := by decide +kernel
theorem d_Df_become_4 : decode prog_5_method_3_code 4 = .ok (.iconst 0, 1) := by decide +kernel
theorem d_Df_become_5 : decode prog_5_method_3_code 5 = .ok (.aload_n 0, 1) := by decide +kernel
theorem d_Df_become_6 : decode prog_5_method_3_code 6 = .ok (.getfield 9, 3) := by decide +kernel
theorem d_Df_become_9 : decode prog_5_method_3_code 9 = .ok (.iconst 0, 1) := by decide +kernel
theorem d_Df_become_10 : decode prog_5_method_3_code 10 = .ok (.iconst 5, 1) := by decide +kernel
theorem d_Df_become_11 : decode prog_5_method_3_code 11 = .ok (.invokestatic 41, 3) := by decide +kernel
theorem d_Df_become_14 : decode prog_5_method_3_code 14 = .ok (.aload_n 0, 1) := by decide +kernel
theorem d_Df_become_15 : decode prog_5_method_3_code 15 = .ok (.aload_n 1, 1) := by decide +kernel
theorem d_Df_become_16 : decode prog_5_method_3_code 16 = .ok (.getfield 18, 3) := by decide +kernel
theorem d_Df_become_19 : decode prog_5_method_3_code 19 = .ok (.putfield 18, 3) := by decide +kernel
theorem d_Df_become_22 : decode prog_5_method_3_code 22 = .ok (.aload_n 1, 1) := by decide +kernel
theorem d_Df_become_23 : decode prog_5_method_3_code 23 = .ok (.getfield 15, 3) := by decide +kernel
theorem d_Df_become_26 : decode prog_5_method_3_code 26 = .ok (.iconst 0, 1) := by decide +kernel
theorem d_Df_become_27 : decode prog_5_method_3_code 27 = .ok (.aload_n 0, 1) := by decide +kernel
theorem d_Df_become_28 : decode prog_5_method_3_code 28 = .ok (.getfield 15, 3) := by decide +kernel
theorem d_Df_become_31 : decode prog_5_method_3_code 31 = .ok (.iconst 0, 1) := by decide +kernel
theorem d_Df_become_32 : decode prog_5_method_3_code 32 = .ok (.aload_n 0, 1) := by decide +kernel
theorem d_Df_become_33 : decode prog_5_method_3_code 33 = .ok (.getfield 18, 3) := by decide +kernel
theorem d_Df_become_36 : decode prog_5_method_3_code 36 = .ok (.invokestatic 41, 3) := by decide +kernel
theorem d_Df_become_39 : decode prog_5_method_3_code 39 = .ok (.aload_n 0, 1) := by decide +kernel
theorem d_Df_become_40 : decode prog_5_method_3_code 40 = .ok (.aload_n 1, 1) := by decide +kernel
theorem d_Df_become_41 : decode prog_5_method_3_code 41 = .ok (.getfield 25, 3) := by decide +kernel
theorem d_Df_become_44 : decode prog_5_method_3_code 44 = .ok (.putfield 25, 3) := by decide +kernel
theorem d_Df_become_47 : decode prog_5_method_3_code 47 = .ok (.aload_n 1, 1) := by decide +kernel
theorem d_Df_become_48 : decode prog_5_method_3_code 48 = .ok (.getfield 22, 3) := by decide +kernel
theorem d_Df_become_51 : decode prog_5_method_3_code 51 = .ok (.iconst 0, 1) := by decide +kernel
theorem d_Df_become_52 : decode prog_5_method_3_code 52 = .ok (.aload_n 0, 1) := by decide +kernel
theorem d_Df_become_53 : decode prog_5_method_3_code 53 = .ok (.getfield 22, 3) := by decide +kernel
theorem d_Df_become_56 : decode prog_5_method_3_code 56 = .ok (.iconst 0, 1) := by decide +kernel
theorem d_Df_become_57 : decode prog_5_method_3_code 57 = .ok (.aload_n 0, 1) := by decide +kernel
theorem d_Df_become_58 : decode prog_5_method_3_code 58 = .ok (.getfield 25, 3) := by decide +kernel
theorem d_Df_become_61 : decode prog_5_method_3_code 61 = .ok (.iconst 3, 1) := by decide +kernel
theorem d_Df_become_62 : decode prog_5_method_3_code 62 = .ok (.imul, 1) := by decide +kernel
theorem d_Df_become_63 : decode prog_5_method_3_code 63 = .ok (.invokestatic 41, 3) := by decide +kernel
theorem d_Df_become_66 : decode prog_5_method_3_code 66 = .ok (.aload_n 0, 1) := by decide +kernel
theorem d_Df_become_67 : decode prog_5_method_3_code 67 = .ok (.aload_n 1, 1) := by decide +kernel
theorem d_Df_become_68 : decode prog_5_method_3_code 68 = .ok (.getfield 34, 3) := by decide +kernel
theorem d_Df_become_71 : decode prog_5_method_3_code 71 = .ok (.putfield 34, 3) := by decide +kernel
theorem d_Df_become_74 : decode prog_5_method_3_code 74 = .ok (.iconst 0, 1) := by decide +kernel
theorem d_Df_become_75 : decode prog_5_method_3_code 75 = .ok (.istore_n 2, 1) := by decide +kernel
theorem d_Df_become_76 : decode prog_5_method_3_code 76 = .ok (.iload_n 2, 1) := by decide +kernel
theorem d_Df_become_77 : decode prog_5_method_3_code 77 = .ok (.aload_n 0, 1) := by decide +kernel
theorem d_Df_become_78 : decode prog_5_method_3_code 78 = .ok (.getfield 34, 3) := by decide +kernel
theorem d_Df_become_81 : decode prog_5_method_3_code 81 = .ok (.if_icmp .ge 24, 3) := by decide +kernel
theorem d_Df_become_84 : decode prog_5_method_3_code 84 = .ok (.aload_n 0, 1) := by decide +kernel
theorem d_Df_become_85 : decode prog_5_method_3_code 85 = .ok (.getfield 30, 3) := by decide +kernel
theorem d_Df_become_88 : decode prog_5_method_3_code 88 = .ok (.iload_n 2, 1) := by decide +kernel
theorem d_Df_become_89 : decode prog_5_method_3_code 89 = .ok (.aaload, 1) := by decide +kernel
theorem d_Df_become_90 : decode prog_5_method_3_code 90 = .ok (.aload_n 1, 1) := by decide +kernel
theorem d_Df_become_91 : decode prog_5_method_3_code 91 = .ok (.getfield 30, 3) := by decide +kernel
theorem d_Df_become_94 : decode prog_5_method_3_code 94 = .ok (.iload_n 2, 1) := by decide +kernel
theorem d_Df_become_95 : decode prog_5_method_3_code 95 = .ok (.aaload, 1) := by decide +kernel
theorem d_Df_become_96 : decode prog_5_method_3_code 96 = .ok (.invokevirtual 47, 3) := by decide +kernel
theorem d_Df_become_99 : decode prog_5_method_3_code 99 = .ok (.iinc 2 1, 3) := by decide +kernel
theorem d_Df_become_102 : decode prog_5_method_3_code 102 = .ok (.goto (-26), 3) := by decide +kernel
theorem d_Df_become_105 : decode prog_5_method_3_code 105 = .ok (.return_, 1) := by decide +kernel
theorem d_Df_addInterface_0 : decode prog_5_method_4_code 0 = .ok (.aload_n 0, 1) := by decide +kernel
theorem d_Df_addInterface_1 : decode prog_5_method_4_code 1 = .ok (.getfield 18, 3) := by decide +kernel
theorem d_Df_addInterface_4 : decode prog_5_method_4_code 4 = .ok (.iconst 3, 1) := by decide +kernel
theorem d_Df_addInterface_5 : decode prog_5_method_4_code 5 = .ok (.if_icmp .lt 5, 3) := by decide +kernel
theorem d_Df_addInterface_8 : decode prog_5_method_4_code 8 = .ok (.iconst 0, 1) := by decide +kernel
theorem d_Df_addInterface_9 : decode prog_5_method_4_code 9 = .ok (.ireturn, 1) := by decide +kernel
theorem d_Df_addInterface_10 : decode prog_5_method_4_code 10 = .ok (.aload_n 0, 1) := by decide +kernel
theorem d_Df_addInterface_11 : decode prog_5_method_4_code 11 = .ok (.getfield 15, 3) := by decide +kernel
theorem d_Df_addInterface_14 : decode prog_5_method_4_code 14 = .ok (.aload_n 0, 1) := by decide +kernel
theorem d_Df_addInterface_15 : decode prog_5_method_4_code 15 = .ok (.getfield 18, 3) := by decide +kernel
theorem d_Df_addInterface_18 : decode prog_5_method_4_code 18 = .ok (.iload_n 1, 1) := by decide +kernel
theorem d_Df_addInterface_19 : decode prog_5_method_4_code 19 = .ok (.iastore, 1) := by decide +kernel
theorem d_Df_addInterface_20 : decode prog_5_method_4_code 20 = .ok (.aload_n 0, 1) := by decide +kernel
theorem d_Df_addInterface_21 : decode prog_5_method_4_code 21 = .ok (.dup, 1) := by decide +kernel
theorem d_Df_addInterface_22 : decode prog_5_method_4_code 22 = .ok (.getfield 18, 3) := by decide +kernel
theorem d_Df_addInterface_25 : decode prog_5_method_4_code 25 = .ok (.iconst 1, 1) := by decide +kernel
theorem d_Df_addInterface_26 : decode prog_5_method_4_code 26 = .ok (.iadd, 1) := by decide +kernel
theorem d_Df_addInterface_27 : decode prog_5_method_4_code 27 = .ok (.putfield 18, 3) := by decide +kernel
theorem d_Df_addInterface_30 : decode prog_5_method_4_code 30 = .ok (.iconst 1, 1) := by decide +kernel
theorem d_Df_addInterface_31 : decode prog_5_method_4_code 31 = .ok (.ireturn, 1) := by decide +kernel
theorem d_Df_addField_0 : decode prog_5_method_5_code 0 = .ok (.aload_n 0, 1) := by decide +kernel
theorem d_Df_addField_1 : decode prog_5_method_5_code 1 = .ok (.getfield 25, 3) := by decide +kernel
theorem d_Df_addField_4 : decode prog_5_method_5_code 4 = .ok (.iconst 4, 1) := by decide +kernel
theorem d_Df_addField_5 : decode prog_5_method_5_code 5 = .ok (.if_icmp .lt 5, 3) := by decide +kernel
theorem d_Df_addField_8 : decode prog_5_method_5_code 8 = .ok (.iconst 0, 1) := by decide +kernel
theorem d_Df_addField_9 : decode prog_5_method_5_code 9 = .ok (.ireturn, 1) := by decide +kernel
theorem d_Df_addField_10 : decode prog_5_method_5_code 10 = .ok (.aload_n 0, 1) := by decide +kernel
theorem d_Df_addField_11 : decode prog_5_method_5_code 11 = .ok (.getfield 22, 3) := by decide +kernel
theorem d_Df_addField_14 : decode prog_5_method_5_code 14 = .ok (.aload_n 0, 1) := by decide +kernel
theorem d_Df_addField_15 : decode prog_5_method_5_code 15 = .ok (.getfield 25, 3) := by decide +kernel
theorem d_Df_addField_18 : decode prog_5_method_5_code 18 = .ok (.iconst 3, 1) := by decide +kernel
theorem d_Df_addField_19 : decode prog_5_method_5_code 19 = .ok (.imul, 1) := by decide +kernel
theorem d_Df_addField_20 : decode prog_5_method_5_code 20 = .ok (.iload_n 1, 1) := by decide +kernel
theorem d_Df_addField_21 : decode prog_5_method_5_code 21 = .ok (.iastore, 1) := by decide +kernel
theorem d_Df_addField_22 : decode prog_5_method_5_code 22 = .ok (.aload_n 0, 1) := by decide +kernel
theorem d_Df_addField_23 : decode prog_5_method_5_code 23 = .ok (.getfield 22, 3) := by decide +kernel
theorem d_Df_addField_26 : decode prog_5_method_5_code 26 = .ok (.aload_n 0, 1) := by decide +kernel
theorem d_Df_addField_27 : decode prog_5_method_5_code 27 = .ok (.getfield 25, 3) := by decide +kernel
theorem d_Df_addField_30 : decode prog_5_method_5_code 30 = .ok (.iconst 3, 1) := by decide +kernel
theorem d_Df_addField_31 : decode prog_5_method_5_code 31 = .ok (.imul, 1) := by decide +kernel
theorem d_Df_addField_32 : decode prog_5_method_5_code 32 = .ok (.iconst 1, 1) := by decide +kernel
theorem d_Df_addField_33 : decode prog_5_method_5_code 33 = .ok (.iadd, 1) := by decide +kernel
theorem d_Df_addField_34 : decode prog_5_method_5_code 34 = .ok (.iload_n 2, 1) := by decide +kernel
theorem d_Df_addField_35 : decode prog_5_method_5_code 35 = .ok (.iastore, 1) := by decide +kernel
theorem d_Df_addField_36 : decode prog_5_method_5_code 36 = .ok (.aload_n 0, 1) := by decide +kernel
theorem d_Df_addField_37 : decode prog_5_method_5_code 37 = .ok (.getfield 22, 3) := by decide +kernel
theorem d_Df_addField_40 : decode prog_5_method_5_code 40 = .ok (.aload_n 0, 1) := by decide +kernel
theorem d_Df_addField_41 : decode prog_5_method_5_code 41 = .ok (.getfield 25, 3) := by decide +kernel
theorem d_Df_addField_44 : decode prog_5_method_5_code 44 = .ok (.iconst 3, 1) := by decide +kernel
theorem d_Df_addField_45 : decode prog_5_method_5_code 45 = .ok (.imul, 1) := by decide +kernel
theorem d_Df_addField_46 : decode prog_5_method_5_code 46 = .ok (.iconst 2, 1) := by decide +kernel
theorem d_Df_addField_47 : decode prog_5_method_5_code 47 = .ok (.iadd, 1) := by decide +kernel
theorem d_Df_addField_48 : decode prog_5_method_5_code 48 = .ok (.iload_n 3, 1) := by decide +kernel
theorem d_Df_addField_49 : decode prog_5_method_5_code 49 = .ok (.iastore, 1) := by decide +kernel
theorem d_Df_addField_50 : decode prog_5_method_5_code 50 = .ok (.aload_n 0, 1) := by decide +kernel
theorem d_Df_addField_51 : decode prog_5_method_5_code 51 = .ok (.dup, 1) := by decide +kernel
theorem d_Df_addField_52 : decode prog_5_method_5_code 52 = .ok (.getfield 25, 3) := by decide +kernel
theorem d_Df_addField_55 : decode prog_5_method_5_code 55 = .ok (.iconst 1, 1) := by decide +kernel
theorem d_Df_addField_56 : decode prog_5_method_5_code 56 = .ok (.iadd, 1) := by decide +kernel
theorem d_Df_addField_57 : decode prog_5_method_5_code 57 = .ok (.putfield 25, 3) := by decide +kernel
theorem d_Df_addField_60 : decode prog_5_method_5_code 60 = .ok (.iconst 1, 1) := by decide +kernel
theorem d_Df_addField_61 : decode prog_5_method_5_code 61 = .ok (.ireturn, 1) := by decide +kernel
theorem d_Df_addMethod_0 : decode prog_5_method_6_code 0 = .ok (.aload_n 0, 1) := by decide +kernel
theorem d_Df_addMethod_1 : decode prog_5_method_6_code 1 = .ok (.getfield 34, 3) := by decide +kernel
theorem d_Df_addMethod_4 : decode prog_5_method_6_code 4 = .ok (.iconst 4, 1) := by decide +kernel
theorem d_Df_addMethod_5 : decode prog_5_method_6_code 5 = .ok (.if_icmp .lt 5, 3) := by decide +kernel
theorem d_Df_addMethod_8 : decode prog_5_method_6_code 8 = .ok (.iconst 0, 1) := by decide +kernel
theorem d_Df_addMethod_9 : decode prog_5_method_6_code 9 = .ok (.ireturn, 1) := by decide +kernel
theorem d_Df_addMethod_10 : decode prog_5_method_6_code 10 = .ok (.aload_n 0, 1) := by decide +kernel
theorem d_Df_addMethod_11 : decode prog_5_method_6_code 11 = .ok (.getfield 30, 3) := by decide +kernel
theorem d_Df_addMethod_14 : decode prog_5_method_6_code 14 = .ok (.aload_n 0, 1) := by decide +kernel
theorem d_Df_addMethod_15 : decode prog_5_method_6_code 15 = .ok (.getfield 34, 3) := by decide +kernel
theorem d_Df_addMethod_18 : decode prog_5_method_6_code 18 = .ok (.aaload, 1) := by decide +kernel
theorem d_Df_addMethod_19 : decode prog_5_method_6_code 19 = .ok (.astore_n 3, 1) := by decide +kernel
theorem d_Df_addMethod_20 : decode prog_5_method_6_code 20 = .ok (.aload_n 3, 1) := by decide +kernel
theorem d_Df_addMethod_21 : decode prog_5_method_6_code 21 = .ok (.iload_n 1, 1) := by decide +kernel
theorem d_Df_addMethod_22 : decode prog_5_method_6_code 22 = .ok (.putfield 51, 3) := by decide +kernel
theorem d_Df_addMethod_25 : decode prog_5_method_6_code 25 = .ok (.aload_n 3, 1) := by decide +kernel
theorem d_Df_addMethod_26 : decode prog_5_method_6_code 26 = .ok (.iload_n 2, 1) := by decide +kernel
theorem d_Df_addMethod_27 : decode prog_5_method_6_code 27 = .ok (.putfield 54, 3) := by decide +kernel
theorem d_Df_addMethod_30 : decode prog_5_method_6_code 30 = .ok (.aload_n 3, 1) := by decide +kernel
theorem d_Df_addMethod_31 : decode prog_5_method_6_code 31 = .ok (.getfield 57, 3) := by decide +kernel
theorem d_Df_addMethod_34 : decode prog_5_method_6_code 34 = .ok (.invokevirtual 61, 3) := by decide +kernel
theorem d_Df_addMethod_37 : decode prog_5_method_6_code 37 = .ok (.aload_n 0, 1) := by decide +kernel
theorem d_Df_addMethod_38 : decode prog_5_method_6_code 38 = .ok (.dup, 1) := by decide +kernel
theorem d_Df_addMethod_39 : decode prog_5_method_6_code 39 = .ok (.getfield 34, 3) := by decide +kernel
theorem d_Df_addMethod_42 : decode prog_5_method_6_code 42 = .ok (.iconst 1, 1) := by decide +kernel
theorem d_Df_addMethod_43 : decode prog_5_method_6_code 43 = .ok (.iadd, 1) := by decide +kernel
theorem d_Df_addMethod_44 : decode prog_5_method_6_code 44 = .ok (.putfield 34, 3) := by decide +kernel
theorem d_Df_addMethod_47 : decode prog_5_method_6_code 47 = .ok (.iconst 1, 1) := by decide +kernel
theorem d_Df_addMethod_48 : decode prog_5_method_6_code 48 = .ok (.ireturn, 1) := by decide +kernel
theorem d_Df_findMethod_0 : decode prog_5_method_7_code 0 = .ok (.iconst 0, 1) := by decide +kernel
theorem d_Df_findMethod_1 : decode prog_5_method_7_code 1 = .ok (.istore_n 2, 1) := by decide +kernel
theorem d_Df_findMethod_2 : decode prog_5_method_7_code 2 = .ok (.iload_n 2, 1) := by decide +kernel
theorem d_Df_findMethod_3 : decode prog_5_method_7_code 3 = .ok (.aload_n 0, 1) := by decide +kernel
theorem d_Df_findMethod_4 : decode prog_5_method_7_code 4 = .ok (.getfield 34, 3) := by decide +kernel
theorem d_Df_findMethod_7 : decode prog_5_method_7_code 7 = .ok (.if_icmp .ge 29, 3) := by decide +kernel
theorem d_Df_findMethod_10 : decode prog_5_method_7_code 10 = .ok (.aload_n 0, 1) := by decide +kernel
theorem d_Df_findMethod_11 : decode prog_5_method_7_code 11 = .ok (.getfield 30, 3) := by decide +kernel
theorem d_Df_findMethod_14 : decode prog_5_method_7_code 14 = .ok (.iload_n 2, 1) := by decide +kernel
theorem d_Df_findMethod_15 : decode prog_5_method_7_code 15 = .ok (.aaload, 1) := by decide +kernel
theorem d_Df_findMethod_16 : decode prog_5_method_7_code 16 = .ok (.getfield 51, 3) := by decide +kernel
theorem d_Df_findMethod_19 : decode prog_5_method_7_code 19 = .ok (.iload_n 1, 1) := by decide +kernel
theorem d_Df_findMethod_20 : decode prog_5_method_7_code 20 = .ok (.if_icmp .ne 10, 3) := by decide +kernel
theorem d_Df_findMethod_23 : decode prog_5_method_7_code 23 = .ok (.aload_n 0, 1) := by decide +kernel
theorem d_Df_findMethod_24 : decode prog_5_method_7_code 24 = .ok (.getfield 30, 3) := by decide +kernel
theorem d_Df_findMethod_27 : decode prog_5_method_7_code 27 = .ok (.iload_n 2, 1) := by decide +kernel
theorem d_Df_findMethod_28 : decode prog_5_method_7_code 28 = .ok (.aaload, 1) := by decide +kernel
theorem d_Df_findMethod_29 : decode prog_5_method_7_code 29 = .ok (.areturn, 1) := by decide +kernel
theorem d_Df_findMethod_30 : decode prog_5_method_7_code 30 = .ok (.iinc 2 1, 3) := by decide +kernel
theorem d_Df_findMethod_33 : decode prog_5_method_7_code 33 = .ok (.goto (-31), 3) := by decide +kernel
theorem d_Df_findMethod_36 : decode prog_5_method_7_code 36 = .ok (.aconst_null, 1) := by decide +kernel
theorem d_Df_findMethod_37 : decode prog_5_method_7_code 37 = .ok (.areturn, 1) := by decide +kernel
theorem d_Df_hasInterface_0 : decode prog_5_method_8_code 0 = .ok (.iconst 0, 1) := by decide +kernel
theorem d_Df_hasInterface_1 : decode prog_5_method_8_code 1 = .ok (.istore_n 2, 1) := by decide +kernel
theorem d_Df_hasInterface_2 : decode prog_5_method_8_code 2 = .ok (.iload_n 2, 1) := by decide +kernel
theorem d_Df_hasInterface_3 : decode prog_5_method_8_code 3 = .ok (.aload_n 0, 1) := by decide +kernel
theorem d_Df_hasInterface_4 : decode prog_5_method_8_code 4 = .ok (.getfield 18, 3) := by decide +kernel
theorem d_Df_hasInterface_7 : decode prog_5_method_8_code 7 = .ok (.if_icmp .ge 21, 3) := by decide +kernel
theorem d_Df_hasInterface_10 : decode prog_5_method_8_code 10 = .ok (.aload_n 0, 1) := by decide +kernel
theorem d_Df_hasInterface_11 : decode prog_5_method_8_code 11 = .ok (.getfield 15, 3) := by decide +kernel
theorem d_Df_hasInterface_14 : decode prog_5_method_8_code 14 = .ok (.iload_n 2, 1) := by decide +kernel
theorem d_Df_hasInterface_15 : decode prog_5_method_8_code 15 = .ok (.iaload, 1) := by decide +kernel
theorem d_Df_hasInterface_16 : decode prog_5_method_8_code 16 = .ok (.iload_n 1, 1) := by decide +kernel
theorem d_Df_hasInterface_17 : decode prog_5_method_8_code 17 = .ok (.if_icmp .ne 5, 3) := by decide +kernel
theorem d_Df_hasInterface_20 : decode prog_5_method_8_code 20 = .ok (.iconst 1, 1) := by decide +kernel
theorem d_Df_hasInterface_21 : decode prog_5_method_8_code 21 = .ok (.ireturn, 1) := by decide +kernel
theorem d_Df_hasInterface_22 : decode prog_5_method_8_code 22 = .ok (.iinc 2 1, 3) := by decide +kernel
theorem d_Df_hasInterface_25 : decode prog_5_method_8_code 25 = .ok (.goto (-23), 3) := by decide +kernel
theorem d_Df_hasInterface_28 : decode prog_5_method_8_code 28 = .ok (.iconst 0, 1) := by decide +kernel
theorem d_Df_hasInterface_29 : decode prog_5_method_8_code 29 = .ok (.ireturn, 1) := by decide +kernel
theorem d_Df_hasEqualInterfaces_0 : decode prog_5_method_9_code 0 = .ok (.iconst 0, 1) := by decide +kernel
theorem d_Df_hasEqualInterfaces_1 : decode prog_5_method_9_code 1 = .ok (.istore_n 1, 1) := by decide +kernel
theorem d_Df_hasEqualInterfaces_2 : decode prog_5_method_9_code 2 = .ok (.iload_n 1, 1) := by decide +kernel
theorem d_Df_hasEqualInterfaces_3 : decode prog_5_method_9_code 3 = .ok (.aload_n 0, 1) := by decide +kernel
theorem d_Df_hasEqualInterfaces_4 : decode prog_5_method_9_code 4 = .ok (.getfield 18, 3) := by decide +kernel
theorem d_Df_hasEqualInterfaces_7 : decode prog_5_method_9_code 7 = .ok (.if_icmp .ge 39, 3) := by decide +kernel
theorem d_Df_hasEqualInterfaces_10 : decode prog_5_method_9_code 10 = .ok (.iconst 0, 1) := by decide +kernel
theorem d_Df_hasEqualInterfaces_11 : decode prog_5_method_9_code 11 = .ok (.istore_n 2, 1) := by decide +kernel
theorem d_Df_hasEqualInterfaces_12 : decode prog_5_method_9_code 12 = .ok (.iload_n 2, 1) := by decide +kernel
theorem d_Df_hasEqualInterfaces_13 : decode prog_5_method_9_code 13 = .ok (.iload_n 1, 1) := by decide +kernel
theorem d_Df_hasEqualInterfaces_14 : decode prog_5_method_9_code 14 = .ok (.if_icmp .ge 26, 3) := by decide +kernel
theorem d_Df_hasEqualInterfaces_17 : decode prog_5_method_9_code 17 = .ok (.aload_n 0, 1) := by decide +kernel
theorem d_Df_hasEqualInterfaces_18 : decode prog_5_method_9_code 18 = .ok (.getfield 15, 3) := by decide +kernel
theorem d_Df_hasEqualInterfaces_21 : decode prog_5_method_9_code 21 = .ok (.iload_n 1, 1) := by decide +kernel
theorem d_Df_hasEqualInterfaces_22 : decode prog_5_method_9_code 22 = .ok (.iaload, 1) := by decide +kernel
theorem d_Df_hasEqualInterfaces_23 : decode prog_5_method_9_code 23 = .ok (.aload_n 0, 1) := by decide +kernel
theorem d_Df_hasEqualInterfaces_24 : decode prog_5_method_9_code 24 = .ok (.getfield 15, 3) := by decide +kernel
theorem d_Df_hasEqualInterfaces_27 : decode prog_5_method_9_code 27 = .ok (.iload_n 2, 1) := by decide +kernel
theorem d_Df_hasEqualInterfaces_28 : decode prog_5_method_9_code 28 = .ok (.iaload, 1) := by decide +kernel
theorem d_Df_hasEqualInterfaces_29 : decode prog_5_method_9_code 29 = .ok (.if_icmp .ne 5, 3) := by decide +kernel
theorem d_Df_hasEqualInterfaces_32 : decode prog_5_method_9_code 32 = .ok (.iconst 1, 1) := by decide +kernel
theorem d_Df_hasEqualInterfaces_33 : decode prog_5_method_9_code 33 = .ok (.ireturn, 1) := by decide +kernel
theorem d_Df_hasEqualInterfaces_34 : decode prog_5_method_9_code 34 = .ok (.iinc 2 1, 3) := by decide +kernel
theorem d_Df_hasEqualInterfaces_37 : decode prog_5_method_9_code 37 = .ok (.goto (-25), 3) := by decide +kernel
theorem d_Df_hasEqualInterfaces_40 : decode prog_5_method_9_code 40 = .ok (.iinc 1 1, 3) := by decide +kernel
theorem d_Df_hasEqualInterfaces_43 : decode prog_5_method_9_code 43 = .ok (.goto (-41), 3) := by decide +kernel
theorem d_Df_hasEqualInterfaces_46 : decode prog_5_method_9_code 46 = .ok (.iconst 0, 1) := by decide +kernel
theorem d_Df_hasEqualInterfaces_47 : decode prog_5_method_9_code 47 = .ok (.ireturn, 1) := by decide +kernel
theorem d_Df_hasFieldsOfOneName_0 : decode prog_5_method_10_code 0 = .ok (.iconst 0, 1) := by decide +kernel
theorem d_Df_hasFieldsOfOneName_1 : decode prog_5_method_10_code 1 = .ok (.istore_n 1, 1) := by decide +kernel
theorem d_Df_hasFieldsOfOneName_2 : decode prog_5_method_10_code 2 = .ok (.iload_n 1, 1) := by decide +kernel
theorem d_Df_hasFieldsOfOneName_3 : decode prog_5_method_10_code 3 = .ok (.aload_n 0, 1) := by decide +kernel
theorem d_Df_hasFieldsOfOneName_4 : decode prog_5_method_10_code 4 = .ok (.getfield 25, 3) := by decide +kernel
theorem d_Df_hasFieldsOfOneName_7 : decode prog_5_method_10_code 7 = .ok (.if_icmp .ge 43, 3) := by decide +kernel
theorem d_Df_hasFieldsOfOneName_10 : decode prog_5_method_10_code 10 = .ok (.iconst 0, 1) := by decide +kernel
theorem d_Df_hasFieldsOfOneName_11 : decode prog_5_method_10_code 11 = .ok (.istore_n 2, 1) := by decide +kernel
theorem d_Df_hasFieldsOfOneName_12 : decode prog_5_method_10_code 12 = .ok (.iload_n 2, 1) := by decide +kernel
theorem d_Df_hasFieldsOfOneName_13 : decode prog_5_method_10_code 13 = .ok (.iload_n 1, 1) := by decide +kernel
theorem d_Df_hasFieldsOfOneName_14 : decode prog_5_method_10_code 14 = .ok (.if_icmp .ge 30, 3) := by decide +kernel
theorem d_Df_hasFieldsOfOneName_17 : decode prog_5_method_10_code 17 = .ok (.aload_n 0, 1) := by decide +kernel
theorem d_Df_hasFieldsOfOneName_18 : decode prog_5_method_10_code 18 = .ok (.getfield 22, 3) := by decide +kernel
theorem d_Df_hasFieldsOfOneName_21 : decode prog_5_method_10_code 21 = .ok (.iload_n 1, 1) := by decide +kernel
theorem d_Df_hasFieldsOfOneName_22 : decode prog_5_method_10_code 22 = .ok (.iconst 3, 1) := by decide +kernel
theorem d_Df_hasFieldsOfOneName_23 : decode prog_5_method_10_code 23 = .ok (.imul, 1) := by decide +kernel
theorem d_Df_hasFieldsOfOneName_24 : decode prog_5_method_10_code 24 = .ok (.iaload, 1) := by decide +kernel
theorem d_Df_hasFieldsOfOneName_25 : decode prog_5_method_10_code 25 = .ok (.aload_n 0, 1) := by decide +kernel
theorem d_Df_hasFieldsOfOneName_26 : decode prog_5_method_10_code 26 = .ok (.getfield 22, 3) := by decide +kernel
theorem d_Df_hasFieldsOfOneName_29 : decode prog_5_method_10_code 29 = .ok (.iload_n 2, 1) := by decide +kernel
theorem d_Df_hasFieldsOfOneName_30 : decode prog_5_method_10_code 30 = .ok (.iconst 3, 1) := by decide +kernel
theorem d_Df_hasFieldsOfOneName_31 : decode prog_5_method_10_code 31 = .ok (.imul, 1) := by decide +kernel
theorem d_Df_hasFieldsOfOneName_32 : decode prog_5_method_10_code 32 = .ok (.iaload, 1) := by decide +kernel
theorem d_Df_hasFieldsOfOneName_33 : decode prog_5_method_10_code 33 = .ok (.if_icmp .ne 5, 3) := by decide +kernel
theorem d_Df_hasFieldsOfOneName_36 : decode prog_5_method_10_code 36 = .ok (.iconst 1, 1) := by decide +kernel
theorem d_Df_hasFieldsOfOneName_37 : decode prog_5_method_10_code 37 = .ok (.ireturn, 1) := by decide +kernel
theorem d_Df_hasFieldsOfOneName_38 : decode prog_5_method_10_code 38 = .ok (.iinc 2 1, 3) := by decide +kernel
theorem d_Df_hasFieldsOfOneName_41 : decode prog_5_method_10_code 41 = .ok (.goto (-29), 3) := by decide +kernel
theorem d_Df_hasFieldsOfOneName_44 : decode prog_5_method_10_code 44 = .ok (.iinc 1 1, 3) := by decide +kernel
theorem d_Df_hasFieldsOfOneName_47 : decode prog_5_method_10_code 47 = .ok (.goto (-45), 3) := by decide +kernel
theorem d_Df_hasFieldsOfOneName_50 : decode prog_5_method_10_code 50 = .ok (.iconst 0, 1) := by decide +kernel
theorem d_Df_hasFieldsOfOneName_51 : decode prog_5_method_10_code 51 = .ok (.ireturn, 1) := by decide +kernel
theorem d_Df_hasMethodsOfOneName_0 : decode prog_5_method_11_code 0 = .ok (.iconst 0, 1) := by decide +kernel
theorem d_Df_hasMethodsOfOneName_1 : decode prog_5_method_11_code 1 = .ok (.istore_n 1, 1) := by decide +kernel
theorem d_Df_hasMethodsOfOneName_2 : decode prog_5_method_11_code 2 = .ok (.iload_n 1, 1) := by decide +kernel
theorem d_Df_hasMethodsOfOneName_3 : decode prog_5_method_11_code 3 = .ok (.aload_n 0, 1) := by decide +kernel
theorem d_Df_hasMethodsOfOneName_4 : decode prog_5_method_11_code 4 = .ok (.getfield 34, 3) := by decide +kernel
theorem d_Df_hasMethodsOfOneName_7 : decode prog_5_method_11_code 7 = .ok (.if_icmp .ge 45, 3) := by decide +kernel
theorem d_Df_hasMethodsOfOneName_10 : decode prog_5_method_11_code 10 = .ok (.iconst 0, 1) := by decide +kernel
theorem d_Df_hasMethodsOfOneName_11 : decode prog_5_method_11_code 11 = .ok (.istore_n 2, 1) := by decide +kernel
theorem d_Df_hasMethodsOfOneName_12 : decode prog_5_method_11_code 12 = .ok (.iload_n 2, 1) := by decide +kernel
theorem d_Df_hasMethodsOfOneName_13 : decode prog_5_method_11_code 13 = .ok (.iload_n 1, 1) := by decide +kernel
theorem d_Df_hasMethodsOfOneName_14 : decode prog_5_method_11_code 14 = .ok (.if_icmp .ge 32, 3) := by decide +kernel
theorem d_Df_hasMethodsOfOneName_17 : decode prog_5_method_11_code 17 = .ok (.aload_n 0, 1) := by decide +kernel
theorem d_Df_hasMethodsOfOneName_18 : decode prog_5_method_11_code 18 = .ok (.getfield 30, 3) := by decide +kernel
theorem d_Df_hasMethodsOfOneName_21 : decode prog_5_method_11_code 21 = .ok (.iload_n 1, 1) := by decide +kernel
theorem d_Df_hasMethodsOfOneName_22 : decode prog_5_method_11_code 22 = .ok (.aaload, 1) := by decide +kernel
theorem d_Df_hasMethodsOfOneName_23 : decode prog_5_method_11_code 23 = .ok (.getfield 51, 3) := by decide +kernel
theorem d_Df_hasMethodsOfOneName_26 : decode prog_5_method_11_code 26 = .ok (.aload_n 0, 1) := by decide +kernel
theorem d_Df_hasMethodsOfOneName_27 : decode prog_5_method_11_code 27 = .ok (.getfield 30, 3) := by decide +kernel
theorem d_Df_hasMethodsOfOneName_30 : decode prog_5_method_11_code 30 = .ok (.iload_n 2, 1) := by decide +kernel
theorem d_Df_hasMethodsOfOneName_31 : decode prog_5_method_11_code 31 = .ok (.aaload, 1) := by decide +kernel
theorem d_Df_hasMethodsOfOneName_32 : decode prog_5_method_11_code 32 = .ok (.getfield 51, 3) := by decide +kernel
theorem d_Df_hasMethodsOfOneName_35 : decode prog_5_method_11_code 35 = .ok (.if_icmp .ne 5, 3) := by decide +kernel
theorem d_Df_hasMethodsOfOneName_38 : decode prog_5_method_11_code 38 = .ok (.iconst 1, 1) := by decide +kernel
theorem d_Df_hasMethodsOfOneName_39 : decode prog_5_method_11_code 39 = .ok (.ireturn, 1) := by decide +kernel
theorem d_Df_hasMethodsOfOneName_40 : decode prog_5_method_11_code 40 = .ok (.iinc 2 1, 3) := by decide +kernel
theorem d_Df_hasMethodsOfOneName_43 : decode prog_5_method_11_code 43 = .ok (.goto (-31), 3) := by decide +kernel
theorem d_Df_hasMethodsOfOneName_46 : decode prog_5_method_11_code 46 = .ok (.iinc 1 1, 3) := by decide +kernel
theorem d_Df_hasMethodsOfOneName_49 : decode prog_5_method_11_code 49 = .ok (.goto (-47), 3) := by decide +kernel
theorem d_Df_hasMethodsOfOneName_52 : decode prog_5_method_11_code 52 = .ok (.iconst 0, 1) := by decide +kernel
theorem d_Df_hasMethodsOfOneName_53 : decode prog_5_method_11_code 53 = .ok (.ireturn, 1) := by decide +kernel
theorem d_Df_hasFieldsOf_0 : decode prog_5_method_12_code 0 = .ok (.aload_n 0, 1) := by decide +kernel
theorem d_Df_hasFieldsOf_1 : decode prog_5_method_12_code 1 = .ok (.getfield 25, 3) := by decide +kernel
theorem d_Df_hasFieldsOf_4 : decode prog_5_method_12_code 4 = .ok (.aload_n 1, 1) := by decide +kernel
theorem d_Df_hasFieldsOf_5 : decode prog_5_method_12_code 5 = .ok (.getfield 25, 3) := by decide +kernel
theorem d_Df_hasFieldsOf_8 : decode prog_5_method_12_code 8 = .ok (.if_icmp .eq 5, 3) := by decide +kernel
theorem d_Df_hasFieldsOf_11 : decode prog_5_method_12_code 11 = .ok (.iconst 0, 1) := by decide +kernel
theorem d_Df_hasFieldsOf_12 : decode prog_5_method_12_code 12 = .ok (.ireturn, 1) := by decide +kernel
theorem d_Df_hasFieldsOf_13 : decode prog_5_method_12_code 13 = .ok (.iconst 0, 1) := by decide +kernel
theorem d_Df_hasFieldsOf_14 : decode prog_5_method_12_code 14 = .ok (.istore_n 2, 1) := by decide +kernel
theorem d_Df_hasFieldsOf_15 : decode prog_5_method_12_code 15 = .ok (.iload_n 2, 1) := by decide +kernel
theorem d_Df_hasFieldsOf_16 : decode prog_5_method_12_code 16 = .ok (.aload_n 0, 1) := by decide +kernel
theorem d_Df_hasFieldsOf_17 : decode prog_5_method_12_code 17 = .ok (.getfield 25, 3) := by decide +kernel
theorem d_Df_hasFieldsOf_20 : decode prog_5_method_12_code 20 = .ok (.iconst 3, 1) := by decide +kernel
theorem d_Df_hasFieldsOf_21 : decode prog_5_method_12_code 21 = .ok (.imul, 1) := by decide +kernel
theorem d_Df_hasFieldsOf_22 : decode prog_5_method_12_code 22 = .ok (.if_icmp .ge 26, 3) := by decide +kernel
theorem d_Df_hasFieldsOf_25 : decode prog_5_method_12_code 25 = .ok (.aload_n 0, 1) := by decide +kernel
theorem d_Df_hasFieldsOf_26 : decode prog_5_method_12_code 26 = .ok (.getfield 22, 3) := by decide +kernel
theorem d_Df_hasFieldsOf_29 : decode prog_5_method_12_code 29 = .ok (.iload_n 2, 1) := by decide +kernel
theorem d_Df_hasFieldsOf_30 : decode prog_5_method_12_code 30 = .ok (.iaload, 1) := by decide +kernel
theorem d_Df_hasFieldsOf_31 : decode prog_5_method_12_code 31 = .ok (.aload_n 1, 1) := by decide +kernel
theorem d_Df_hasFieldsOf_32 : decode prog_5_method_12_code 32 = .ok (.getfield 22, 3) := by decide +kernel
theorem d_Df_hasFieldsOf_35 : decode prog_5_method_12_code 35 = .ok (.iload_n 2, 1) := by decide +kernel
theorem d_Df_hasFieldsOf_36 : decode prog_5_method_12_code 36 = .ok (.iaload, 1) := by decide +kernel
theorem d_Df_hasFieldsOf_37 : decode prog_5_method_12_code 37 = .ok (.if_icmp .eq 5, 3) := by decide +kernel
theorem d_Df_hasFieldsOf_40 : decode prog_5_method_12_code 40 = .ok (.iconst 0, 1) := by decide +kernel
theorem d_Df_hasFieldsOf_41 : decode prog_5_method_12_code 41 = .ok (.ireturn, 1) := by decide +kernel
theorem d_Df_hasFieldsOf_42 : decode prog_5_method_12_code 42 = .ok (.iinc 2 1, 3) := by decide +kernel
theorem d_Df_hasFieldsOf_45 : decode prog_5_method_12_code 45 = .ok (.goto (-30), 3) := by decide +kernel
theorem d_Df_hasFieldsOf_48 : decode prog_5_method_12_code 48 = .ok (.iconst 1, 1) := by decide +kernel
theorem d_Df_hasFieldsOf_49 : decode prog_5_method_12_code 49 = .ok (.ireturn, 1) := by decide +kernel
theorem d_Df_hasInterfacesOf_0 : decode prog_5_method_13_code 0 = .ok (.aload_n 0, 1) := by decide +kernel
theorem d_Df_hasInterfacesOf_1 : decode prog_5_method_13_code 1 = .ok (.getfield 18, 3) := by decide +kernel
theorem d_Df_hasInterfacesOf_4 : decode prog_5_method_13_code 4 = .ok (.aload_n 1, 1) := by decide +kernel
theorem d_Df_hasInterfacesOf_5 : decode prog_5_method_13_code 5 = .ok (.getfield 18, 3) := by decide +kernel
theorem d_Df_hasInterfacesOf_8 : decode prog_5_method_13_code 8 = .ok (.if_icmp .eq 5, 3) := by decide +kernel
theorem d_Df_hasInterfacesOf_11 : decode prog_5_method_13_code 11 = .ok (.iconst 0, 1) := by decide +kernel
theorem d_Df_hasInterfacesOf_12 : decode prog_5_method_13_code 12 = .ok (.ireturn, 1) := by decide +kernel
theorem d_Df_hasInterfacesOf_13 : decode prog_5_method_13_code 13 = .ok (.iconst 0, 1) := by decide +kernel
theorem d_Df_hasInterfacesOf_14 : decode prog_5_method_13_code 14 = .ok (.istore_n 2, 1) := by decide +kernel
theorem d_Df_hasInterfacesOf_15 : decode prog_5_method_13_code 15 = .ok (.iload_n 2, 1) := by decide +kernel
theorem d_Df_hasInterfacesOf_16 : decode prog_5_method_13_code 16 = .ok (.aload_n 0, 1) := by decide +kernel
theorem d_Df_hasInterfacesOf_17 : decode prog_5_method_13_code 17 = .ok (.getfield 18, 3) := by decide +kernel
theorem d_Df_hasInterfacesOf_20 : decode prog_5_method_13_code 20 = .ok (.if_icmp .ge 24, 3) := by decide +kernel
theorem d_Df_hasInterfacesOf_23 : decode prog_5_method_13_code 23 = .ok (.aload_n 1, 1) := by decide +kernel
theorem d_Df_hasInterfacesOf_24 : decode prog_5_method_13_code 24 = .ok (.aload_n 0, 1) := by decide +kernel
theorem d_Df_hasInterfacesOf_25 : decode prog_5_method_13_code 25 = .ok (.getfield 15, 3) := by decide +kernel
theorem d_Df_hasInterfacesOf_28 : decode prog_5_method_13_code 28 = .ok (.iload_n 2, 1) := by decide +kernel
theorem d_Df_hasInterfacesOf_29 : decode prog_5_method_13_code 29 = .ok (.iaload, 1) := by decide +kernel
theorem d_Df_hasInterfacesOf_30 : decode prog_5_method_13_code 30 = .ok (.invokevirtual 64, 3) := by decide +kernel
theorem d_Df_hasInterfacesOf_33 : decode prog_5_method_13_code 33 = .ok (.ifCond .ne 5, 3) := by decide +kernel
theorem d_Df_hasInterfacesOf_36 : decode prog_5_method_13_code 36 = .ok (.iconst 0, 1) := by decide +kernel
theorem d_Df_hasInterfacesOf_37 : decode prog_5_method_13_code 37 = .ok (.ireturn, 1) := by decide +kernel
theorem d_Df_hasInterfacesOf_38 : decode prog_5_method_13_code 38 = .ok (.iinc 2 1, 3) := by decide +kernel
theorem d_Df_hasInterfacesOf_41 : decode prog_5_method_13_code 41 = .ok (.goto (-26), 3) := by decide +kernel
theorem d_Df_hasInterfacesOf_44 : decode prog_5_method_13_code 44 = .ok (.iconst 1, 1) := by decide +kernel
theorem d_Df_hasInterfacesOf_45 : decode prog_5_method_13_code 45 = .ok (.ireturn, 1) := by decide +kernel
theorem d_Df_hasMethodNamesOf_0 : decode prog_5_method_14_code 0 = .ok (.iconst 0, 1) := by decide +kernel
theorem d_Df_hasMethodNamesOf_1 : decode prog_5_method_14_code 1 = .ok (.istore_n 2, 1) := by decide +kernel
theorem d_Df_hasMethodNamesOf_2 : decode prog_5_method_14_code 2 = .ok (.iload_n 2, 1) := by decide +kernel
theorem d_Df_hasMethodNamesOf_3 : decode prog_5_method_14_code 3 = .ok (.aload_n 1, 1) := by decide +kernel
theorem d_Df_hasMethodNamesOf_4 : decode prog_5_method_14_code 4 = .ok (.getfield 34, 3) := by decide +kernel
theorem d_Df_hasMethodNamesOf_7 : decode prog_5_method_14_code 7 = .ok (.if_icmp .ge 27, 3) := by decide +kernel
theorem d_Df_hasMethodNamesOf_10 : decode prog_5_method_14_code 10 = .ok (.aload_n 0, 1) := by decide +kernel
theorem d_Df_hasMethodNamesOf_11 : decode prog_5_method_14_code 11 = .ok (.aload_n 1, 1) := by decide +kernel
theorem d_Df_hasMethodNamesOf_12 : decode prog_5_method_14_code 12 = .ok (.getfield 30, 3) := by decide +kernel
theorem d_Df_hasMethodNamesOf_15 : decode prog_5_method_14_code 15 = .ok (.iload_n 2, 1) := by decide +kernel
theorem d_Df_hasMethodNamesOf_16 : decode prog_5_method_14_code 16 = .ok (.aaload, 1) := by decide +kernel
theorem d_Df_hasMethodNamesOf_17 : decode prog_5_method_14_code 17 = .ok (.getfield 51, 3) := by decide +kernel
theorem d_Df_hasMethodNamesOf_20 : decode prog_5_method_14_code 20 = .ok (.invokevirtual 68, 3) := by decide +kernel
theorem d_Df_hasMethodNamesOf_23 : decode prog_5_method_14_code 23 = .ok (.ifnonnull 5, 3) := by decide +kernel
theorem d_Df_hasMethodNamesOf_26 : decode prog_5_method_14_code 26 = .ok (.iconst 0, 1) := by decide +kernel
theorem d_Df_hasMethodNamesOf_27 : decode prog_5_method_14_code 27 = .ok (.ireturn, 1) := by decide +kernel
theorem d_Df_hasMethodNamesOf_28 : decode prog_5_method_14_code 28 = .ok (.iinc 2 1, 3) := by decide +kernel
theorem d_Df_hasMethodNamesOf_31 : decode prog_5_method_14_code 31 = .ok (.goto (-29), 3) := by decide +kernel
theorem d_Df_hasMethodNamesOf_34 : decode prog_5_method_14_code 34 = .ok (.iconst 1, 1) := by decide +kernel
theorem d_Df_hasMethodNamesOf_35 : decode prog_5_method_14_code 35 = .ok (.ireturn, 1) := by decide +kernel
theorem d_Df_hasMethodFlagsOf_0 : decode prog_5_method_15_code 0 = .ok (.iconst 0, 1) := by decide +kernel
theorem d_Df_hasMethodFlagsOf_1 : decode prog_5_method_15_code 1 = .ok (.istore_n 2, 1) := by decide +kernel
theorem d_Df_hasMethodFlagsOf_2 : decode prog_5_method_15_code 2 = .ok (.iload_n 2, 1) := by decide +kernel
theorem d_Df_hasMethodFlagsOf_3 : decode prog_5_method_15_code 3 = .ok (.aload_n 1, 1) := by decide +kernel
theorem d_Df_hasMethodFlagsOf_4 : decode prog_5_method_15_code 4 = .ok (.getfield 34, 3) := by decide +kernel
theorem d_Df_hasMethodFlagsOf_7 : decode prog_5_method_15_code 7 = .ok (.if_icmp .ge 45, 3) := by decide +kernel
theorem d_Df_hasMethodFlagsOf_10 : decode prog_5_method_15_code 10 = .ok (.aload_n 0, 1) := by decide +kernel
theorem d_Df_hasMethodFlagsOf_11 : decode prog_5_method_15_code 11 = .ok (.aload_n 1, 1) := by decide +kernel
theorem d_Df_hasMethodFlagsOf_12 : decode prog_5_method_15_code 12 = .ok (.getfield 30, 3) := by decide +kernel
theorem d_Df_hasMethodFlagsOf_15 : decode prog_5_method_15_code 15 = .ok (.iload_n 2, 1) := by decide +kernel
theorem d_Df_hasMethodFlagsOf_16 : decode prog_5_method_15_code 16 = .ok (.aaload, 1) := by decide +kernel
theorem d_Df_hasMethodFlagsOf_17 : decode prog_5_method_15_code 17 = .ok (.getfield 51, 3) := by decide +kernel
theorem d_Df_hasMethodFlagsOf_20 : decode prog_5_method_15_code 20 = .ok (.invokevirtual 68, 3) := by decide +kernel
theorem d_Df_hasMethodFlagsOf_23 : decode prog_5_method_15_code 23 = .ok (.astore_n 3, 1) := by decide +kernel
theorem d_Df_hasMethodFlagsOf_24 : decode prog_5_method_15_code 24 = .ok (.aload_n 3, 1) := by decide +kernel
theorem d_Df_hasMethodFlagsOf_25 : decode prog_5_method_15_code 25 = .ok (.ifnull 21, 3) := by decide +kernel
theorem d_Df_hasMethodFlagsOf_28 : decode prog_5_method_15_code 28 = .ok (.aload_n 3, 1) := by decide +kernel
theorem d_Df_hasMethodFlagsOf_29 : decode prog_5_method_15_code 29 = .ok (.getfield 54, 3) := by decide +kernel
theorem d_Df_hasMethodFlagsOf_32 : decode prog_5_method_15_code 32 = .ok (.aload_n 1, 1) := by decide +kernel
theorem d_Df_hasMethodFlagsOf_33 : decode prog_5_method_15_code 33 = .ok (.getfield 30, 3) := by decide +kernel
theorem d_Df_hasMethodFlagsOf_36 : decode prog_5_method_15_code 36 = .ok (.iload_n 2, 1) := by decide +kernel
theorem d_Df_hasMethodFlagsOf_37 : decode prog_5_method_15_code 37 = .ok (.aaload, 1) := by decide +kernel
theorem d_Df_hasMethodFlagsOf_38 : decode prog_5_method_15_code 38 = .ok (.getfield 54, 3) := by decide +kernel
theorem d_Df_hasMethodFlagsOf_41 : decode prog_5_method_15_code 41 = .ok (.if_icmp .eq 5, 3) := by decide +kernel
theorem d_Df_hasMethodFlagsOf_44 : decode prog_5_method_15_code 44 = .ok (.iconst 0, 1) := by decide +kernel
theorem d_Df_hasMethodFlagsOf_45 : decode prog_5_method_15_code 45 = .ok (.ireturn, 1) := by decide +kernel
theorem d_Df_hasMethodFlagsOf_46 : decode prog_5_method_15_code 46 = .ok (.iinc 2 1, 3) := by decide +kernel
theorem d_Df_hasMethodFlagsOf_49 : decode prog_5_method_15_code 49 = .ok (.goto (-47), 3) := by decide +kernel
theorem d_Df_hasMethodFlagsOf_52 : decode prog_5_method_15_code 52 = .ok (.iconst 1, 1) := by decide +kernel
theorem d_Df_hasMethodFlagsOf_53 : decode prog_5_method_15_code 53 = .ok (.ireturn, 1) := by decide +kernel
theorem d_Fr_init_0 : decode prog_6_method_1_code 0 = .ok (.aload_n 0, 1) := by decide +kernel
theorem d_Fr_init_1 : decode prog_6_method_1_code 1 = .ok (.invokespecial 3, 3) := by decide +kernel
theorem d_Fr_init_4 : decode prog_6_method_1_code 4 = .ok (.aload_n 0, 1) := by decide +kernel
theorem d_Fr_init_5 : decode prog_6_method_1_code 5 = .ok (.iconst (-1), 1) := by decide +kernel
theorem d_Fr_init_6 : decode prog_6_method_1_code 6 = .ok (.putfield 9, 3) := by decide +kernel
theorem d_Fr_init_9 : decode prog_6_method_1_code 9 = .ok (.aload_n 0, 1) := by decide +kernel
theorem d_Fr_init_10 : decode prog_6_method_1_code 10 = .ok (.iconst 0, 1) := by decide +kernel
theorem d_Fr_init_11 : decode prog_6_method_1_code 11 = .ok (.putfield 15, 3) := by decide +kernel
theorem d_Fr_init_14 : decode prog_6_method_1_code 14 = .ok (.aload_n 0, 1) := by decide +kernel
theorem d_Fr_init_15 : decode prog_6_method_1_code 15 = .ok (.new 18, 3) := by decide +kernel
theorem d_Fr_init_18 : decode prog_6_method_1_code 18 = .ok (.dup, 1) := by decide +kernel
theorem d_Fr_init_19 : decode prog_6_method_1_code 19 = .ok (.invokespecial 20, 3) := by decide +kernel
theorem d_Fr_init_22 : decode prog_6_method_1_code 22 = .ok (.putfield 21, 3) := by decide +kernel
theorem d_Fr_init_25 : decode prog_6_method_1_code 25 = .ok (.aload_n 0, 1) := by decide +kernel
theorem d_Fr_init_26 : decode prog_6_method_1_code 26 = .ok (.iconst 0, 1) := by decide +kernel
theorem d_Fr_init_27 : decode prog_6_method_1_code 27 = .ok (.putfield 25, 3) := by decide +kernel
theorem d_Fr_init_30 : decode prog_6_method_1_code 30 = .ok (.aload_n 0, 1) := by decide +kernel
theorem d_Fr_init_31 : decode prog_6_method_1_code 31 = .ok (.iconst 0, 1) := by decide +kernel
theorem d_Fr_init_32 : decode prog_6_method_1_code 32 = .ok (.putfield 28, 3) := by decide +kernel
theorem d_Fr_init_35 : decode prog_6_method_1_code 35 = .ok (.return_, 1) := by decide +kernel
theorem d_Fr_begin_0 : decode prog_6_method_2_code 0 = .ok (.aload_n 0, 1) := by decide +kernel
theorem d_Fr_begin_1 : decode prog_6_method_2_code 1 = .ok (.iload_n 1, 1) := by decide +kernel
theorem d_Fr_begin_2 : decode prog_6_method_2_code 2 = .ok (.putfield 9, 3) := by decide +kernel
theorem d_Fr_begin_5 : decode prog_6_method_2_code 5 = .ok (.aload_n 0, 1) := by decide +kernel
theorem d_Fr_begin_6 : decode prog_6_method_2_code 6 = .ok (.iload_n 2, 1) := by decide +kernel
theorem d_Fr_begin_7 : decode prog_6_method_2_code 7 = .ok (.putfield 15, 3) := by decide +kernel
theorem d_Fr_begin_10 : decode prog_6_method_2_code 10 = .ok (.aload_n 0, 1) := by decide +kernel
theorem d_Fr_begin_11 : decode prog_6_method_2_code 11 = .ok (.getfield 21, 3) := by decide +kernel
theorem d_Fr_begin_14 : decode prog_6_method_2_code 14 = .ok (.aload_n 3, 1) := by decide +kernel
theorem d_Fr_begin_15 : decode prog_6_method_2_code 15 = .ok (.invokevirtual 31, 3) := by decide +kernel
theorem d_Fr_begin_18 : decode prog_6_method_2_code 18 = .ok (.aload_n 0, 1) := by decide +kernel
theorem d_Fr_begin_19 : decode prog_6_method_2_code 19 = .ok (.iconst 0, 1) := by decide +kernel
theorem d_Fr_begin_20 : decode prog_6_method_2_code 20 = .ok (.putfield 25, 3) := by decide +kernel
theorem d_Fr_begin_23 : decode prog_6_method_2_code 23 = .ok (.aload_n 0, 1) := by decide +kernel
theorem d_Fr_begin_24 : decode prog_6_method_2_code 24 = .ok (.iconst 0, 1) := by decide +kernel
theorem d_Fr_begin_25 : decode prog_6_method_2_code 25 = .ok (.putfield 28, 3) := by decide +kernel
theorem d_Fr_begin_28 : decode prog_6_method_2_code 28 = .ok (.return_, 1) := by decide +kernel
theorem d_Lc_init_0 : decode prog_7_method_1_code 0 = .ok (.aload_n 0, 1) := by decide +kernel
theorem d_Lc_init_1 : decode prog_7_method_1_code 1 = .ok (.invokespecial 1, 3) := by decide +kernel
theorem d_Lc_init_4 : decode prog_7_method_1_code 4 = .ok (.aload_n 0, 1) := by decide +kernel
theorem d_Lc_init_5 : decode prog_7_method_1_code 5 = .ok (.iconst 0, 1) := by decide +kernel
theorem d_Lc_init_6 : decode prog_7_method_1_code 6 = .ok (.putfield 7, 3) := by decide +kernel
theorem d_Lc_init_9 : decode prog_7_method_1_code 9 = .ok (.aload_n 0, 1) := by decide +kernel
theorem d_Lc_init_10 : decode prog_7_method_1_code 10 = .ok (.new 13, 3) := by decide +kernel
theorem d_Lc_init_13 : decode prog_7_method_1_code 13 = .ok (.dup, 1) := by decide +kernel
theorem d_Lc_init_14 : decode prog_7_method_1_code 14 = .ok (.invokespecial 15, 3) := by decide +kernel
theorem d_Lc_init_17 : decode prog_7_method_1_code 17 = .ok (.putfield 16, 3) := by decide +kernel
theorem d_Lc_init_20 : decode prog_7_method_1_code 20 = .ok (.aload_n 0, 1) := by decide +kernel
theorem d_Lc_init_21 : decode prog_7_method_1_code 21 = .ok (.new 13, 3) := by decide +kernel
theorem d_Lc_init_24 : decode prog_7_method_1_code 24 = .ok (.dup, 1) := by decide +kernel
theorem d_Lc_init_25 : decode prog_7_method_1_code 25 = .ok (.invokespecial 15, 3) := by decide +kernel
theorem d_Lc_init_28 : decode prog_7_method_1_code 28 = .ok (.putfield 20, 3) := by decide +kernel
theorem d_Lc_init_31 : decode prog_7_method_1_code 31 = .ok (.return_, 1) := by decide +kernel
theorem d_Lc_addEdition_0 : decode prog_7_method_2_code 0 = .ok (.aload_n 0, 1) := by decide +kernel
theorem d_Lc_addEdition_1 : decode prog_7_method_2_code 1 = .ok (.getfield 16, 3) := by decide +kernel
theorem d_Lc_addEdition_4 : decode prog_7_method_2_code 4 = .ok (.aload_n 1, 1) := by decide +kernel
theorem d_Lc_addEdition_5 : decode prog_7_method_2_code 5 = .ok (.invokevirtual 23, 3) := by decide +kernel
theorem d_Lc_addEdition_8 : decode prog_7_method_2_code 8 = .ok (.aload_n 0, 1) := by decide +kernel
theorem d_Lc_addEdition_9 : decode prog_7_method_2_code 9 = .ok (.dup, 1) := by decide +kernel
theorem d_Lc_addEdition_10 : decode prog_7_method_2_code 10 = .ok (.getfield 7, 3) := by decide +kernel
theorem d_Lc_addEdition_13 : decode prog_7_method_2_code 13 = .ok (.iconst 1, 1) := by decide +kernel
theorem d_Lc_addEdition_14 : decode prog_7_method_2_code 14 = .ok (.iadd, 1) := by decide +kernel
theorem d_Lc_addEdition_15 : decode prog_7_method_2_code 15 = .ok (.putfield 7, 3) := by decide +kernel
theorem d_Lc_addEdition_18 : decode prog_7_method_2_code 18 = .ok (.return_, 1) := by decide +kernel
theorem d_Mt_init_0 : decode prog_8_method_1_code 0 = .ok (.aload_n 0, 1) := by decide +kernel
theorem d_Mt_init_1 : decode prog_8_method_1_code 1 = .ok (.invokespecial 1, 3) := by decide +kernel
theorem d_Mt_init_4 : decode prog_8_method_1_code 4 = .ok (.aload_n 0, 1) := by decide +kernel
theorem d_Mt_init_5 : decode prog_8_method_1_code 5 = .ok (.iconst 0, 1) := by decide +kernel
theorem d_Mt_init_6 : decode prog_8_method_1_code 6 = .ok (.putfield 7, 3) := by decide +kernel
theorem d_Mt_init_9 : decode prog_8_method_1_code 9 = .ok (.aload_n 0, 1) := by decide +kernel
theorem d_Mt_init_10 : decode prog_8_method_1_code 10 = .ok (.iconst 0, 1) := by decide +kernel
theorem d_Mt_init_11 : decode prog_8_method_1_code 11 = .ok (.putfield 13, 3) := by decide +kernel
theorem d_Mt_init_14 : decode prog_8_method_1_code 14 = .ok (.aload_n 0, 1) := by decide +kernel
theorem d_Mt_init_15 : decode prog_8_method_1_code 15 = .ok (.new 16, 3) := by decide +kernel
theorem d_Mt_init_18 : decode prog_8_method_1_code 18 = .ok (.dup, 1) := by decide +kernel
theorem d_Mt_init_19 : decode prog_8_method_1_code 19 = .ok (.invokespecial 18, 3) := by decide +kernel
theorem d_Mt_init_22 : decode prog_8_method_1_code 22 = .ok (.putfield 19, 3) := by decide +kernel
theorem d_Mt_init_25 : decode prog_8_method_1_code 25 = .ok (.return_, 1) := by decide +kernel
theorem d_Mt_become_0 : decode prog_8_method_2_code 0 = .ok (.aload_n 0, 1) := by decide +kernel
theorem d_Mt_become_1 : decode prog_8_method_2_code 1 = .ok (.aload_n 1, 1) := by decide +kernel
theorem d_Mt_become_2 : decode prog_8_method_2_code 2 = .ok (.getfield 7, 3) := by decide +kernel
theorem d_Mt_become_5 : decode prog_8_method_2_code 5 = .ok (.putfield 7, 3) := by decide +kernel
theorem d_Mt_become_8 : decode prog_8_method_2_code 8 = .ok (.aload_n 0, 1) := by decide +kernel
theorem d_Mt_become_9 : decode prog_8_method_2_code 9 = .ok (.aload_n 1, 1) := by decide +kernel
theorem d_Mt_become_10 : decode prog_8_method_2_code 10 = .ok (.getfield 13, 3) := by decide +kernel
theorem d_Mt_become_13 : decode prog_8_method_2_code 13 = .ok (.putfield 13, 3) := by decide +kernel
theorem d_Mt_become_16 : decode prog_8_method_2_code 16 = .ok (.aload_n 0, 1) := by decide +kernel
theorem d_Mt_become_17 : decode prog_8_method_2_code 17 = .ok (.getfield 19, 3) := by decide +kernel
theorem d_Mt_become_20 : decode prog_8_method_2_code 20 = .ok (.aload_n 1, 1) := by decide +kernel
theorem d_Mt_become_21 : decode prog_8_method_2_code 21 = .ok (.getfield 19, 3) := by decide +kernel
theorem d_Mt_become_24 : decode prog_8_method_2_code 24 = .ok (.invokevirtual 23, 3) := by decide +kernel
theorem d_Mt_become_27 : decode prog_8_method_2_code 27 = .ok (.return_, 1) := by decide +kernel
theorem d_Ru_firstBroken_0 : decode prog_9_method_2_code 0 = .ok (.aload_n 0, 1) := by decide +kernel
theorem d_Ru_firstBroken_1 : decode prog_9_method_2_code 1 = .ok (.aload_n 3, 1) := by decide +kernel
theorem d_Ru_firstBroken_2 : decode prog_9_method_2_code 2 = .ok (.invokestatic 9, 3) := by decide +kernel
theorem d_Ru_firstBroken_5 : decode prog_9_method_2_code 5 = .ok (.istore 4, 2) := by decide +kernel
theorem d_Ru_firstBroken_7 : decode prog_9_method_2_code 7 = .ok (.iload 4, 2) := by decide +kernel
theorem d_Ru_firstBroken_9 : decode prog_9_method_2_code 9 = .ok (.ifCond .eq 8, 3) := by decide +kernel
theorem d_Ru_firstBroken_12 : decode prog_9_method_2_code 12 = .ok (.iload 4, 2) := by decide +kernel
theorem d_Ru_firstBroken_14 : decode prog_9_method_2_code 14 = .ok (.goto 9, 3) := by decide +kernel
theorem d_Ru_firstBroken_17 : decode prog_9_method_2_code 17 = .ok (.aload_n 0, 1) := by decide +kernel
theorem d_Ru_firstBroken_18 : decode prog_9_method_2_code 18 = .ok (.iload_n 1, 1) := by decide +kernel
theorem d_Ru_firstBroken_19 : decode prog_9_method_2_code 19 = .ok (.aload_n 2, 1) := by decide +kernel
theorem d_Ru_firstBroken_20 : decode prog_9_method_2_code 20 = .ok (.invokestatic 15, 3) := by decide +kernel
theorem d_Ru_firstBroken_23 : decode prog_9_method_2_code 23 = .ok (.ireturn, 1) := by decide +kernel
theorem d_Ru_firstBrokenAlone_0 : decode prog_9_method_3_code 0 = .ok (.aload_n 0, 1) := by decide +kernel
theorem d_Ru_firstBrokenAlone_1 : decode prog_9_method_3_code 1 = .ok (.getfield 19, 3) := by decide +kernel
theorem d_Ru_firstBrokenAlone_4 : decode prog_9_method_3_code 4 = .ok (.iconst 0, 1) := by decide +kernel
theorem d_Ru_firstBrokenAlone_5 : decode prog_9_method_3_code 5 = .ok (.iaload, 1) := by decide +kernel
theorem d_Ru_firstBrokenAlone_6 : decode prog_9_method_3_code 6 = .ok (.iconst 1, 1) := by decide +kernel
theorem d_Ru_firstBrokenAlone_7 : decode prog_9_method_3_code 7 = .ok (.if_icmp .lt 14, 3) := by decide +kernel
theorem d_Ru_firstBrokenAlone_10 : decode prog_9_method_3_code 10 = .ok (.aload_n 0, 1) := by decide +kernel
theorem d_Ru_firstBrokenAlone_11 : decode prog_9_method_3_code 11 = .ok (.getfield 19, 3) := by decide +kernel
theorem d_Ru_firstBrokenAlone_14 : decode prog_9_method_3_code 14 = .ok (.iconst 0, 1) := by decide +kernel
theorem d_Ru_firstBrokenAlone_15 : decode prog_9_method_3_code 15 = .ok (.iaload, 1) := by decide +kernel
theorem d_Ru_firstBrokenAlone_16 : decode prog_9_method_3_code 16 = .ok (.bipush 9, 2) := by decide +kernel
theorem d_Ru_firstBrokenAlone_18 : decode prog_9_method_3_code 18 = .ok (.if_icmp .le 5, 3) := by decide +kernel
theorem d_Ru_firstBrokenAlone_21 : decode prog_9_method_3_code 21 = .ok (.iconst 1, 1) := by decide +kernel
theorem d_Ru_firstBrokenAlone_22 : decode prog_9_method_3_code 22 = .ok (.ireturn, 1) := by decide +kernel
theorem d_Ru_firstBrokenAlone_23 : decode prog_9_method_3_code 23 = .ok (.aload_n 0, 1) := by decide +kernel
theorem d_Ru_firstBrokenAlone_24 : decode prog_9_method_3_code 24 = .ok (.invokevirtual 25, 3) := by decide +kernel
theorem d_Ru_firstBrokenAlone_27 : decode prog_9_method_3_code 27 = .ok (.ifCond .ne 24, 3) := by decide +kernel
theorem d_Ru_firstBrokenAlone_30 : decode prog_9_method_3_code 30 = .ok (.aload_n 0, 1) := by decide +kernel
theorem d_Ru_firstBrokenAlone_31 : decode prog_9_method_3_code 31 = .ok (.invokevirtual 29, 3) := by decide +kernel
theorem d_Ru_firstBrokenAlone_34 : decode prog_9_method_3_code 34 = .ok (.ifCond .ne 17, 3) := by decide +kernel
theorem d_Ru_firstBrokenAlone_37 : decode prog_9_method_3_code 37 = .ok (.aload_n 0, 1) := by decide +kernel
theorem d_Ru_firstBrokenAlone_38 : decode prog_9_method_3_code 38 = .ok (.invokevirtual 32, 3) := by decide +kernel
theorem d_Ru_firstBrokenAlone_41 : decode prog_9_method_3_code 41 = .ok (.ifCond .ne 10, 3) := by decide +kernel
theorem d_Ru_firstBrokenAlone_44 : decode prog_9_method_3_code 44 = .ok (.aload_n 0, 1) := by decide +kernel
theorem d_Ru_firstBrokenAlone_45 : decode prog_9_method_3_code 45 = .ok (.invokestatic 35, 3) := by decide +kernel
theorem d_Ru_firstBrokenAlone_48 : decode prog_9_method_3_code 48 = .ok (.ifCond .eq 5, 3) := by decide +kernel
theorem d_Ru_firstBrokenAlone_51 : decode prog_9_method_3_code 51 = .ok (.iconst 2, 1) := by decide +kernel
theorem d_Ru_firstBrokenAlone_52 : decode prog_9_method_3_code 52 = .ok (.ireturn, 1) := by decide +kernel
theorem d_Ru_firstBrokenAlone_53 : decode prog_9_method_3_code 53 = .ok (.aload_n 0, 1) := by decide +kernel
theorem d_Ru_firstBrokenAlone_54 : decode prog_9_method_3_code 54 = .ok (.aload_n 1, 1) := by decide +kernel
theorem d_Ru_firstBrokenAlone_55 : decode prog_9_method_3_code 55 = .ok (.invokestatic 39, 3) := by decide +kernel
theorem d_Ru_firstBrokenAlone_58 : decode prog_9_method_3_code 58 = .ok (.ifCond .eq 5, 3) := by decide +kernel
theorem d_Ru_firstBrokenAlone_61 : decode prog_9_method_3_code 61 = .ok (.iconst 3, 1) := by decide +kernel
theorem d_Ru_firstBrokenAlone_62 : decode prog_9_method_3_code 62 = .ok (.ireturn, 1) := by decide +kernel
theorem d_Ru_firstBrokenAlone_63 : decode prog_9_method_3_code 63 = .ok (.aload_n 0, 1) := by decide +kernel
theorem d_Ru_firstBrokenAlone_64 : decode prog_9_method_3_code 64 = .ok (.aload_n 1, 1) := by decide +kernel
theorem d_Ru_firstBrokenAlone_65 : decode prog_9_method_3_code 65 = .ok (.invokestatic 43, 3) := by decide +kernel
theorem d_Ru_firstBrokenAlone_68 : decode prog_9_method_3_code 68 = .ok (.ifCond .ne 11, 3) := by decide +kernel
theorem d_Ru_firstBrokenAlone_71 : decode prog_9_method_3_code 71 = .ok (.aload_n 0, 1) := by decide +kernel
theorem d_Ru_firstBrokenAlone_72 : decode prog_9_method_3_code 72 = .ok (.aload_n 1, 1) := by decide +kernel
theorem d_Ru_firstBrokenAlone_73 : decode prog_9_method_3_code 73 = .ok (.invokestatic 46, 3) := by decide +kernel
theorem d_Ru_firstBrokenAlone_76 : decode prog_9_method_3_code 76 = .ok (.ifCond .eq 5, 3) := by decide +kernel
theorem d_Ru_firstBrokenAlone_79 : decode prog_9_method_3_code 79 = .ok (.iconst 4, 1) := by decide +kernel
theorem d_Ru_firstBrokenAlone_80 : decode prog_9_method_3_code 80 = .ok (.ireturn, 1) := by decide +kernel
theorem d_Ru_firstBrokenAlone_81 : decode prog_9_method_3_code 81 = .ok (.iconst 0, 1) := by decide +kernel
theorem d_Ru_firstBrokenAlone_82 : decode prog_9_method_3_code 82 = .ok (.ireturn, 1) := by decide +kernel
theorem d_Ru_firstBrokenBeside_0 : decode prog_9_method_4_code 0 = .ok (.aload_n 0, 1) := by decide +kernel
theorem d_Ru_firstBrokenBeside_1 : decode prog_9_method_4_code 1 = .ok (.getfield 19, 3) := by decide +kernel
theorem d_Ru_firstBrokenBeside_4 : decode prog_9_method_4_code 4 = .ok (.iconst 1, 1) := by decide +kernel
theorem d_Ru_firstBrokenBeside_5 : decode prog_9_method_4_code 5 = .ok (.iaload, 1) := by decide +kernel
theorem d_Ru_firstBrokenBeside_6 : decode prog_9_method_4_code 6 = .ok (.iload_n 1, 1) := by decide +kernel
theorem d_Ru_firstBrokenBeside_7 : decode prog_9_method_4_code 7 = .ok (.if_icmp .eq 5, 3) := by decide +kernel
theorem d_Ru_firstBrokenBeside_10 : decode prog_9_method_4_code 10 = .ok (.iconst 5, 1) := by decide +kernel
theorem d_Ru_firstBrokenBeside_11 : decode prog_9_method_4_code 11 = .ok (.ireturn, 1) := by decide +kernel
theorem d_Ru_firstBrokenBeside_12 : decode prog_9_method_4_code 12 = .ok (.aload_n 0, 1) := by decide +kernel
theorem d_Ru_firstBrokenBeside_13 : decode prog_9_method_4_code 13 = .ok (.getfield 19, 3) := by decide +kernel
theorem d_Ru_firstBrokenBeside_16 : decode prog_9_method_4_code 16 = .ok (.iconst 2, 1) := by decide +kernel
theorem d_Ru_firstBrokenBeside_17 : decode prog_9_method_4_code 17 = .ok (.iaload, 1) := by decide +kernel
theorem d_Ru_firstBrokenBeside_18 : decode prog_9_method_4_code 18 = .ok (.aload_n 2, 1) := by decide +kernel
theorem d_Ru_firstBrokenBeside_19 : decode prog_9_method_4_code 19 = .ok (.getfield 19, 3) := by decide +kernel
theorem d_Ru_firstBrokenBeside_22 : decode prog_9_method_4_code 22 = .ok (.iconst 2, 1) := by decide +kernel
theorem d_Ru_firstBrokenBeside_23 : decode prog_9_method_4_code 23 = .ok (.iaload, 1) := by decide +kernel
theorem d_Ru_firstBrokenBeside_24 : decode prog_9_method_4_code 24 = .ok (.if_icmp .ne 11, 3) := by decide +kernel
theorem d_Ru_firstBrokenBeside_27 : decode prog_9_method_4_code 27 = .ok (.aload_n 0, 1) := by decide +kernel
theorem d_Ru_firstBrokenBeside_28 : decode prog_9_method_4_code 28 = .ok (.aload_n 2, 1) := by decide +kernel
theorem d_Ru_firstBrokenBeside_29 : decode prog_9_method_4_code 29 = .ok (.invokevirtual 49, 3) := by decide +kernel
theorem d_Ru_firstBrokenBeside_32 : decode prog_9_method_4_code 32 = .ok (.ifCond .ne 6, 3) := by decide +kernel
theorem d_Ru_firstBrokenBeside_35 : decode prog_9_method_4_code 35 = .ok (.bipush 6, 2) := by decide +kernel
theorem d_Ru_firstBrokenBeside_37 : decode prog_9_method_4_code 37 = .ok (.ireturn, 1) := by decide +kernel
theorem d_Ru_firstBrokenBeside_38 : decode prog_9_method_4_code 38 = .ok (.aload_n 0, 1) := by decide +kernel
theorem d_Ru_firstBrokenBeside_39 : decode prog_9_method_4_code 39 = .ok (.aload_n 2, 1) := by decide +kernel
theorem d_Ru_firstBrokenBeside_40 : decode prog_9_method_4_code 40 = .ok (.invokevirtual 52, 3) := by decide +kernel
theorem d_Ru_firstBrokenBeside_43 : decode prog_9_method_4_code 43 = .ok (.ifCond .ne 6, 3) := by decide +kernel
theorem d_Ru_firstBrokenBeside_46 : decode prog_9_method_4_code 46 = .ok (.bipush 7, 2) := by decide +kernel
theorem d_Ru_firstBrokenBeside_48 : decode prog_9_method_4_code 48 = .ok (.ireturn, 1) := by decide +kernel
theorem d_Ru_firstBrokenBeside_49 : decode prog_9_method_4_code 49 = .ok (.aload_n 2, 1) := by decide +kernel
theorem d_Ru_firstBrokenBeside_50 : decode prog_9_method_4_code 50 = .ok (.aload_n 0, 1) := by decide +kernel
theorem d_Ru_firstBrokenBeside_51 : decode prog_9_method_4_code 51 = .ok (.invokevirtual 55, 3) := by decide +kernel
theorem d_Ru_firstBrokenBeside_54 : decode prog_9_method_4_code 54 = .ok (.ifCond .ne 6, 3) := by decide +kernel
theorem d_Ru_firstBrokenBeside_57 : decode prog_9_method_4_code 57 = .ok (.bipush 8, 2) := by decide +kernel
theorem d_Ru_firstBrokenBeside_59 : decode prog_9_method_4_code 59 = .ok (.ireturn, 1) := by decide +kernel
theorem d_Ru_firstBrokenBeside_60 : decode prog_9_method_4_code 60 = .ok (.aload_n 0, 1) := by decide +kernel
theorem d_Ru_firstBrokenBeside_61 : decode prog_9_method_4_code 61 = .ok (.aload_n 2, 1) := by decide +kernel
theorem d_Ru_firstBrokenBeside_62 : decode prog_9_method_4_code 62 = .ok (.invokevirtual 55, 3) := by decide +kernel
theorem d_Ru_firstBrokenBeside_65 : decode prog_9_method_4_code 65 = .ok (.ifCond .ne 6, 3) := by decide +kernel
theorem d_Ru_firstBrokenBeside_68 : decode prog_9_method_4_code 68 = .ok (.bipush 9, 2) := by decide +kernel
theorem d_Ru_firstBrokenBeside_70 : decode prog_9_method_4_code 70 = .ok (.ireturn, 1) := by decide +kernel
theorem d_Ru_firstBrokenBeside_71 : decode prog_9_method_4_code 71 = .ok (.aload_n 0, 1) := by decide +kernel
theorem d_Ru_firstBrokenBeside_72 : decode prog_9_method_4_code 72 = .ok (.getfield 19, 3) := by decide +kernel
theorem d_Ru_firstBrokenBeside_75 : decode prog_9_method_4_code 75 = .ok (.iconst 3, 1) := by decide +kernel
theorem d_Ru_firstBrokenBeside_76 : decode prog_9_method_4_code 76 = .ok (.iaload, 1) := by decide +kernel
theorem d_Ru_firstBrokenBeside_77 : decode prog_9_method_4_code 77 = .ok (.aload_n 2, 1) := by decide +kernel
theorem d_Ru_firstBrokenBeside_78 : decode prog_9_method_4_code 78 = .ok (.getfield 19, 3) := by decide +kernel
theorem d_Ru_firstBrokenBeside_81 : decode prog_9_method_4_code 81 = .ok (.iconst 3, 1) := by decide +kernel
theorem d_Ru_firstBrokenBeside_82 : decode prog_9_method_4_code 82 = .ok (.iaload, 1) := by decide +kernel
theorem d_Ru_firstBrokenBeside_83 : decode prog_9_method_4_code 83 = .ok (.if_icmp .eq 6, 3) := by decide +kernel
theorem d_Ru_firstBrokenBeside_86 : decode prog_9_method_4_code 86 = .ok (.bipush 10, 2) := by decide +kernel
theorem d_Ru_firstBrokenBeside_88 : decode prog_9_method_4_code 88 = .ok (.ireturn, 1) := by decide +kernel
theorem d_Ru_firstBrokenBeside_89 : decode prog_9_method_4_code 89 = .ok (.aload_n 0, 1) := by decide +kernel
theorem d_Ru_firstBrokenBeside_90 : decode prog_9_method_4_code 90 = .ok (.aload_n 2, 1) := by decide +kernel
theorem d_Ru_firstBrokenBeside_91 : decode prog_9_method_4_code 91 = .ok (.invokevirtual 58, 3) := by decide +kernel
theorem d_Ru_firstBrokenBeside_94 : decode prog_9_method_4_code 94 = .ok (.ifCond .ne 6, 3) := by decide +kernel
theorem d_Ru_firstBrokenBeside_97 : decode prog_9_method_4_code 97 = .ok (.bipush 11, 2) := by decide +kernel
theorem d_Ru_firstBrokenBeside_99 : decode prog_9_method_4_code 99 = .ok (.ireturn, 1) := by decide +kernel
theorem d_Ru_firstBrokenBeside_100 : decode prog_9_method_4_code 100 = .ok (.aload_n 0, 1) := by decide +kernel
theorem d_Ru_firstBrokenBeside_101 : decode prog_9_method_4_code 101 = .ok (.getfield 19, 3) := by decide +kernel
theorem d_Ru_firstBrokenBeside_104 : decode prog_9_method_4_code 104 = .ok (.iconst 4, 1) := by decide +kernel
theorem d_Ru_firstBrokenBeside_105 : decode prog_9_method_4_code 105 = .ok (.iaload, 1) := by decide +kernel
theorem d_Ru_firstBrokenBeside_106 : decode prog_9_method_4_code 106 = .ok (.aload_n 2, 1) := by decide +kernel
theorem d_Ru_firstBrokenBeside_107 : decode prog_9_method_4_code 107 = .ok (.getfield 19, 3) := by decide +kernel
theorem d_Ru_firstBrokenBeside_110 : decode prog_9_method_4_code 110 = .ok (.iconst 4, 1) := by decide +kernel
theorem d_Ru_firstBrokenBeside_111 : decode prog_9_method_4_code 111 = .ok (.iaload, 1) := by decide +kernel
theorem d_Ru_firstBrokenBeside_112 : decode prog_9_method_4_code 112 = .ok (.if_icmp .eq 6, 3) := by decide +kernel
theorem d_Ru_firstBrokenBeside_115 : decode prog_9_method_4_code 115 = .ok (.bipush 12, 2) := by decide +kernel
theorem d_Ru_firstBrokenBeside_117 : decode prog_9_method_4_code 117 = .ok (.ireturn, 1) := by decide +kernel
theorem d_Ru_firstBrokenBeside_118 : decode prog_9_method_4_code 118 = .ok (.iconst 0, 1) := by decide +kernel
theorem d_Ru_firstBrokenBeside_119 : decode prog_9_method_4_code 119 = .ok (.ireturn, 1) := by decide +kernel
theorem d_Ru_hasUnknownOp_0 : decode prog_9_method_5_code 0 = .ok (.iconst 0, 1) := by decide +kernel
theorem d_Ru_hasUnknownOp_1 : decode prog_9_method_5_code 1 = .ok (.istore_n 1, 1) := by decide +kernel
theorem d_Ru_hasUnknownOp_2 : decode prog_9_method_5_code 2 = .ok (.iload_n 1, 1) := by decide +kernel
theorem d_Ru_hasUnknownOp_3 : decode prog_9_method_5_code 3 = .ok (.aload_n 0, 1) := by decide +kernel
theorem d_Ru_hasUnknownOp_4 : decode prog_9_method_5_code 4 = .ok (.getfield 61, 3) := by decide +kernel
theorem d_Ru_hasUnknownOp_7 : decode prog_9_method_5_code 7 = .ok (.if_icmp .ge 54, 3) := by decide +kernel
theorem d_Ru_hasUnknownOp_10 : decode prog_9_method_5_code 10 = .ok (.aload_n 0, 1) := by decide +kernel
theorem d_Ru_hasUnknownOp_11 : decode prog_9_method_5_code 11 = .ok (.getfield 65, 3) := by decide +kernel
theorem d_Ru_hasUnknownOp_14 : decode prog_9_method_5_code 14 = .ok (.iload_n 1, 1) := by decide +kernel
theorem d_Ru_hasUnknownOp_15 : decode prog_9_method_5_code 15 = .ok (.aaload, 1) := by decide +kernel
theorem d_Ru_hasUnknownOp_16 : decode prog_9_method_5_code 16 = .ok (.getfield 69, 3) := by decide +kernel
theorem d_Ru_hasUnknownOp_19 : decode prog_9_method_5_code 19 = .ok (.astore_n 2, 1) := by decide +kernel
theorem d_Ru_hasUnknownOp_20 : decode prog_9_method_5_code 20 = .ok (.iconst 0, 1) := by decide +kernel
theorem d_Ru_hasUnknownOp_21 : decode prog_9_method_5_code 21 = .ok (.istore_n 3, 1) := by decide +kernel
theorem d_Ru_hasUnknownOp_22 : decode prog_9_method_5_code 22 = .ok (.iload_n 3, 1) := by decide +kernel
theorem d_Ru_hasUnknownOp_23 : decode prog_9_method_5_code 23 = .ok (.aload_n 2, 1) := by decide +kernel
theorem d_Ru_hasUnknownOp_24 : decode prog_9_method_5_code 24 = .ok (.getfield 75, 3) := by decide +kernel
theorem d_Ru_hasUnknownOp_27 : decode prog_9_method_5_code 27 = .ok (.if_icmp .ge 28, 3) := by decide +kernel
theorem d_Ru_hasUnknownOp_30 : decode prog_9_method_5_code 30 = .ok (.aload_n 2, 1) := by decide +kernel
theorem d_Ru_hasUnknownOp_31 : decode prog_9_method_5_code 31 = .ok (.iload_n 3, 1) := by decide +kernel
theorem d_Ru_hasUnknownOp_32 : decode prog_9_method_5_code 32 = .ok (.invokevirtual 80, 3) := by decide +kernel
theorem d_Ru_hasUnknownOp_35 : decode prog_9_method_5_code 35 = .ok (.ifCond .eq 14, 3) := by decide +kernel
theorem d_Ru_hasUnknownOp_38 : decode prog_9_method_5_code 38 = .ok (.aload_n 2, 1) := by decide +kernel
theorem d_Ru_hasUnknownOp_39 : decode prog_9_method_5_code 39 = .ok (.iload_n 3, 1) := by decide +kernel
theorem d_Ru_hasUnknownOp_40 : decode prog_9_method_5_code 40 = .ok (.invokevirtual 80, 3) := by decide +kernel
theorem d_Ru_hasUnknownOp_43 : decode prog_9_method_5_code 43 = .ok (.iconst 1, 1) := by decide +kernel
theorem d_Ru_hasUnknownOp_44 : decode prog_9_method_5_code 44 = .ok (.if_icmp .eq 5, 3) := by decide +kernel
theorem d_Ru_hasUnknownOp_47 : decode prog_9_method_5_code 47 = .ok (.iconst 1, 1) := by decide +kernel
theorem d_Ru_hasUnknownOp_48 : decode prog_9_method_5_code 48 = .ok (.ireturn, 1) := by decide +kernel
theorem d_Ru_hasUnknownOp_49 : decode prog_9_method_5_code 49 = .ok (.iinc 3 1, 3) := by decide +kernel
theorem d_Ru_hasUnknownOp_52 : decode prog_9_method_5_code 52 = .ok (.goto (-30), 3) := by decide +kernel
theorem d_Ru_hasUnknownOp_55 : decode prog_9_method_5_code 55 = .ok (.iinc 1 1, 3) := by decide +kernel
theorem d_Ru_hasUnknownOp_58 : decode prog_9_method_5_code 58 = .ok (.goto (-56), 3) := by decide +kernel
theorem d_Ru_hasUnknownOp_61 : decode prog_9_method_5_code 61 = .ok (.iconst 0, 1) := by decide +kernel
theorem d_Ru_hasUnknownOp_62 : decode prog_9_method_5_code 62 = .ok (.ireturn, 1) := by decide +kernel
theorem d_Ru_meetsItselfAbove_0 : decode prog_9_method_6_code 0 = .ok (.aload_n 0, 1) := by decide +kernel
theorem d_Ru_meetsItselfAbove_1 : decode prog_9_method_6_code 1 = .ok (.getfield 19, 3) := by decide +kernel
theorem d_Ru_meetsItselfAbove_4 : decode prog_9_method_6_code 4 = .ok (.iconst 2, 1) := by decide +kernel
theorem d_Ru_meetsItselfAbove_5 : decode prog_9_method_6_code 5 = .ok (.iaload, 1) := by decide +kernel
theorem d_Ru_meetsItselfAbove_6 : decode prog_9_method_6_code 6 = .ok (.istore_n 2, 1) := by decide +kernel
theorem d_Ru_meetsItselfAbove_7 : decode prog_9_method_6_code 7 = .ok (.iconst 0, 1) := by decide +kernel
theorem d_Ru_meetsItselfAbove_8 : decode prog_9_method_6_code 8 = .ok (.istore_n 3, 1) := by decide +kernel
theorem d_Ru_meetsItselfAbove_9 : decode prog_9_method_6_code 9 = .ok (.iload_n 3, 1) := by decide +kernel
theorem d_Ru_meetsItselfAbove_10 : decode prog_9_method_6_code 10 = .ok (.bipush 6, 2) := by decide +kernel
theorem d_Ru_meetsItselfAbove_12 : decode prog_9_method_6_code 12 = .ok (.if_icmp .gt 46, 3) := by decide +kernel
theorem d_Ru_meetsItselfAbove_15 : decode prog_9_method_6_code 15 = .ok (.iload_n 2, 1) := by decide +kernel
theorem d_Ru_meetsItselfAbove_16 : decode prog_9_method_6_code 16 = .ok (.aload_n 0, 1) := by decide +kernel
theorem d_Ru_meetsItselfAbove_17 : decode prog_9_method_6_code 17 = .ok (.getfield 19, 3) := by decide +kernel
theorem d_Ru_meetsItselfAbove_20 : decode prog_9_method_6_code 20 = .ok (.iconst 1, 1) := by decide +kernel
theorem d_Ru_meetsItselfAbove_21 : decode prog_9_method_6_code 21 = .ok (.iaload, 1) := by decide +kernel
theorem d_Ru_meetsItselfAbove_22 : decode prog_9_method_6_code 22 = .ok (.if_icmp .ne 5, 3) := by decide +kernel
theorem d_Ru_meetsItselfAbove_25 : decode prog_9_method_6_code 25 = .ok (.iconst 1, 1) := by decide +kernel
theorem d_Ru_meetsItselfAbove_26 : decode prog_9_method_6_code 26 = .ok (.ireturn, 1) := by decide +kernel
theorem d_Ru_meetsItselfAbove_27 : decode prog_9_method_6_code 27 = .ok (.aload_n 1, 1) := by decide +kernel
theorem d_Ru_meetsItselfAbove_28 : decode prog_9_method_6_code 28 = .ok (.iload_n 2, 1) := by decide +kernel
theorem d_Ru_meetsItselfAbove_29 : decode prog_9_method_6_code 29 = .ok (.invokevirtual 84, 3) := by decide +kernel
theorem d_Ru_meetsItselfAbove_32 : decode prog_9_method_6_code 32 = .ok (.astore 4, 2) := by decide +kernel
theorem d_Ru_meetsItselfAbove_34 : decode prog_9_method_6_code 34 = .ok (.aload 4, 2) := by decide +kernel
theorem d_Ru_meetsItselfAbove_36 : decode prog_9_method_6_code 36 = .ok (.ifnonnull 5, 3) := by decide +kernel
theorem d_Ru_meetsItselfAbove_39 : decode prog_9_method_6_code 39 = .ok (.iconst 0, 1) := by decide +kernel
theorem d_Ru_meetsItselfAbove_40 : decode prog_9_method_6_code 40 = .ok (.ireturn, 1) := by decide +kernel
theorem d_Ru_meetsItselfAbove_41 : decode prog_9_method_6_code 41 = .ok (.aload 4, 2) := by decide +kernel
theorem d_Ru_meetsItselfAbove_43 : decode prog_9_method_6_code 43 = .ok (.getfield 90, 3) := by decide +kernel
theorem d_Ru_meetsItselfAbove_46 : decode prog_9_method_6_code 46 = .ok (.getfield 19, 3) := by decide +kernel
theorem d_Ru_meetsItselfAbove_49 : decode prog_9_method_6_code 49 = .ok (.iconst 2, 1) := by decide +kernel
theorem d_Ru_meetsItselfAbove_50 : decode prog_9_method_6_code 50 = .ok (.iaload, 1) := by decide +kernel
theorem d_Ru_meetsItselfAbove_51 : decode prog_9_method_6_code 51 = .ok (.istore_n 2, 1) := by decide +kernel
theorem d_Ru_meetsItselfAbove_52 : decode prog_9_method_6_code 52 = .ok (.iinc 3 1, 3) := by decide +kernel
theorem d_Ru_meetsItselfAbove_55 : decode prog_9_method_6_code 55 = .ok (.goto (-46), 3) := by decide +kernel
theorem d_Ru_meetsItselfAbove_58 : decode prog_9_method_6_code 58 = .ok (.iconst 0, 1) := by decide +kernel
theorem d_Ru_meetsItselfAbove_59 : decode prog_9_method_6_code 59 = .ok (.ireturn, 1) := by decide +kernel
theorem d_Ru_lacksSuper_0 : decode prog_9_method_7_code 0 = .ok (.aload_n 0, 1) := by decide +kernel
theorem d_Ru_lacksSuper_1 : decode prog_9_method_7_code 1 = .ok (.getfield 19, 3) := by decide +kernel
theorem d_Ru_lacksSuper_4 : decode prog_9_method_7_code 4 = .ok (.iconst 2, 1) := by decide +kernel
theorem d_Ru_lacksSuper_5 : decode prog_9_method_7_code 5 = .ok (.iaload, 1) := by decide +kernel
theorem d_Ru_lacksSuper_6 : decode prog_9_method_7_code 6 = .ok (.iconst (-1), 1) := by decide +kernel
theorem d_Ru_lacksSuper_7 : decode prog_9_method_7_code 7 = .ok (.if_icmp .eq 20, 3) := by decide +kernel
theorem d_Ru_lacksSuper_10 : decode prog_9_method_7_code 10 = .ok (.aload_n 1, 1) := by decide +kernel
theorem d_Ru_lacksSuper_11 : decode prog_9_method_7_code 11 = .ok (.aload_n 0, 1) := by decide +kernel
theorem d_Ru_lacksSuper_12 : decode prog_9_method_7_code 12 = .ok (.getfield 19, 3) := by decide +kernel
theorem d_Ru_lacksSuper_15 : decode prog_9_method_7_code 15 = .ok (.iconst 2, 1) := by decide +kernel
theorem d_Ru_lacksSuper_16 : decode prog_9_method_7_code 16 = .ok (.iaload, 1) := by decide +kernel
theorem d_Ru_lacksSuper_17 : decode prog_9_method_7_code 17 = .ok (.invokevirtual 84, 3) := by decide +kernel
theorem d_Ru_lacksSuper_20 : decode prog_9_method_7_code 20 = .ok (.ifnonnull 7, 3) := by decide +kernel
theorem d_Ru_lacksSuper_23 : decode prog_9_method_7_code 23 = .ok (.iconst 1, 1) := by decide +kernel
theorem d_Ru_lacksSuper_24 : decode prog_9_method_7_code 24 = .ok (.goto 4, 3) := by decide +kernel
theorem d_Ru_lacksSuper_27 : decode prog_9_method_7_code 27 = .ok (.iconst 0, 1) := by decide +kernel
theorem d_Ru_lacksSuper_28 : decode prog_9_method_7_code 28 = .ok (.ireturn, 1) := by decide +kernel
theorem d_Ru_lacksCalledMethod_0 : decode prog_9_method_8_code 0 = .ok (.iconst 0, 1) := by decide +kernel
theorem d_Ru_lacksCalledMethod_1 : decode prog_9_method_8_code 1 = .ok (.istore_n 2, 1) := by decide +kernel
theorem d_Ru_lacksCalledMethod_2 : decode prog_9_method_8_code 2 = .ok (.iload_n 2, 1) := by decide +kernel
theorem d_Ru_lacksCalledMethod_3 : decode prog_9_method_8_code 3 = .ok (.aload_n 0, 1) := by decide +kernel
theorem d_Ru_lacksCalledMethod_4 : decode prog_9_method_8_code 4 = .ok (.getfield 61, 3) := by decide +kernel
theorem d_Ru_lacksCalledMethod_7 : decode prog_9_method_8_code 7 = .ok (.if_icmp .ge 69, 3) := by decide +kernel
theorem d_Ru_lacksCalledMethod_10 : decode prog_9_method_8_code 10 = .ok (.aload_n 0, 1) := by decide +kernel
theorem d_Ru_lacksCalledMethod_11 : decode prog_9_method_8_code 11 = .ok (.getfield 65, 3) := by decide +kernel
theorem d_Ru_lacksCalledMethod_14 : decode prog_9_method_8_code 14 = .ok (.iload_n 2, 1) := by decide +kernel
theorem d_Ru_lacksCalledMethod_15 : decode prog_9_method_8_code 15 = .ok (.aaload, 1) := by decide +kernel
theorem d_Ru_lacksCalledMethod_16 : decode prog_9_method_8_code 16 = .ok (.getfield 69, 3) := by decide +kernel
theorem d_Ru_lacksCalledMethod_19 : decode prog_9_method_8_code 19 = .ok (.astore_n 3, 1) := by decide +kernel
theorem d_Ru_lacksCalledMethod_20 : decode prog_9_method_8_code 20 = .ok (.iconst 0, 1) := by decide +kernel
theorem d_Ru_lacksCalledMethod_21 : decode prog_9_method_8_code 21 = .ok (.istore 4, 2) := by decide +kernel
theorem d_Ru_lacksCalledMethod_23 : decode prog_9_method_8_code 23 = .ok (.iload 4, 2) := by decide +kernel
theorem d_Ru_lacksCalledMethod_25 : decode prog_9_method_8_code 25 = .ok (.aload_n 3, 1) := by decide +kernel
theorem d_Ru_lacksCalledMethod_26 : decode prog_9_method_8_code 26 = .ok (.getfield 75, 3) := by decide +kernel
theorem d_Ru_lacksCalledMethod_29 : decode prog_9_method_8_code 29 = .ok (.if_icmp .ge 41, 3) := by decide +kernel
theorem d_Ru_lacksCalledMethod_32 : decode prog_9_method_8_code 32 = .ok (.aload_n 3, 1) := by decide +kernel
theorem d_Ru_lacksCalledMethod_33 : decode prog_9_method_8_code 33 = .ok (.iload 4, 2) := by decide +kernel
theorem d_Ru_lacksCalledMethod_35 : decode prog_9_method_8_code 35 = .ok (.invokevirtual 80, 3) := by decide +kernel
theorem d_Ru_lacksCalledMethod_38 : decode prog_9_method_8_code 38 = .ok (.iconst 1, 1) := by decide +kernel
theorem d_Ru_lacksCalledMethod_39 : decode prog_9_method_8_code 39 = .ok (.if_icmp .ne 25, 3) := by decide +kernel
theorem d_Ru_lacksCalledMethod_42 : decode prog_9_method_8_code 42 = .ok (.aload_n 0, 1) := by decide +kernel
theorem d_Ru_lacksCalledMethod_43 : decode prog_9_method_8_code 43 = .ok (.aload_n 3, 1) := by decide +kernel
theorem d_Ru_lacksCalledMethod_44 : decode prog_9_method_8_code 44 = .ok (.iload 4, 2) := by decide +kernel
theorem d_Ru_lacksCalledMethod_46 : decode prog_9_method_8_code 46 = .ok (.invokevirtual 96, 3) := by decide +kernel
theorem d_Ru_lacksCalledMethod_49 : decode prog_9_method_8_code 49 = .ok (.aload_n 3, 1) := by decide +kernel
theorem d_Ru_lacksCalledMethod_50 : decode prog_9_method_8_code 50 = .ok (.iload 4, 2) := by decide +kernel
theorem d_Ru_lacksCalledMethod_52 : decode prog_9_method_8_code 52 = .ok (.invokevirtual 99, 3) := by decide +kernel
theorem d_Ru_lacksCalledMethod_55 : decode prog_9_method_8_code 55 = .ok (.aload_n 1, 1) := by decide +kernel
theorem d_Ru_lacksCalledMethod_56 : decode prog_9_method_8_code 56 = .ok (.invokestatic 102, 3) := by decide +kernel
theorem d_Ru_lacksCalledMethod_59 : decode prog_9_method_8_code 59 = .ok (.ifCond .ne 5, 3) := by decide +kernel
theorem d_Ru_lacksCalledMethod_62 : decode prog_9_method_8_code 62 = .ok (.iconst 1, 1) := by decide +kernel
theorem d_Ru_lacksCalledMethod_63 : decode prog_9_method_8_code 63 = .ok (.ireturn, 1) := by decide +kernel
theorem d_Ru_lacksCalledMethod_64 : decode prog_9_method_8_code 64 = .ok (.iinc 4 1, 3) := by decide +kernel
theorem d_Ru_lacksCalledMethod_67 : decode prog_9_method_8_code 67 = .ok (.goto (-44), 3) := by decide +kernel
theorem d_Ru_lacksCalledMethod_70 : decode prog_9_method_8_code 70 = .ok (.iinc 2 1, 3) := by decide +kernel
theorem d_Ru_lacksCalledMethod_73 : decode prog_9_method_8_code 73 = .ok (.goto (-71), 3) := by decide +kernel
theorem d_Ru_lacksCalledMethod_76 : decode prog_9_method_8_code 76 = .ok (.iconst 0, 1) := by decide +kernel
theorem d_Ru_lacksCalledMethod_77 : decode prog_9_method_8_code 77 = .ok (.ireturn, 1) := by decide +kernel
theorem d_Ru_isCallable_0 : decode prog_9_method_9_code 0 = .ok (.iload_n 1, 1) := by decide +kernel
theorem d_Ru_isCallable_1 : decode prog_9_method_9_code 1 = .ok (.aload_n 0, 1) := by decide +kernel
theorem d_Ru_isCallable_2 : decode prog_9_method_9_code 2 = .ok (.getfield 19, 3) := by decide +kernel
theorem d_Ru_isCallable_5 : decode prog_9_method_9_code 5 = .ok (.iconst 1, 1) := by decide +kernel
theorem d_Ru_isCallable_6 : decode prog_9_method_9_code 6 = .ok (.iaload, 1) := by decide +kernel
theorem d_Ru_isCallable_7 : decode prog_9_method_9_code 7 = .ok (.if_icmp .ne 17, 3) := by decide +kernel
theorem d_Ru_isCallable_10 : decode prog_9_method_9_code 10 = .ok (.aload_n 0, 1) := by decide +kernel
theorem d_Ru_isCallable_11 : decode prog_9_method_9_code 11 = .ok (.iload_n 2, 1) := by decide +kernel
theorem d_Ru_isCallable_12 : decode prog_9_method_9_code 12 = .ok (.invokevirtual 106, 3) := by decide +kernel
theorem d_Ru_isCallable_15 : decode prog_9_method_9_code 15 = .ok (.ifnull 7, 3) := by decide +kernel
theorem d_Ru_isCallable_18 : decode prog_9_method_9_code 18 = .ok (.iconst 1, 1) := by decide +kernel
theorem d_Ru_isCallable_19 : decode prog_9_method_9_code 19 = .ok (.goto 4, 3) := by decide +kernel
theorem d_Ru_isCallable_22 : decode prog_9_method_9_code 22 = .ok (.iconst 0, 1) := by decide +kernel
theorem d_Ru_isCallable_23 : decode prog_9_method_9_code 23 = .ok (.ireturn, 1) := by decide +kernel
theorem d_Ru_isCallable_24 : decode prog_9_method_9_code 24 = .ok (.aload_n 3, 1) := by decide +kernel
theorem d_Ru_isCallable_25 : decode prog_9_method_9_code 25 = .ok (.iload_n 1, 1) := by decide +kernel
theorem d_Ru_isCallable_26 : decode prog_9_method_9_code 26 = .ok (.invokevirtual 84, 3) := by decide +kernel
theorem d_Ru_isCallable_29 : decode prog_9_method_9_code 29 = .ok (.astore 4, 2) := by decide +kernel
theorem d_Ru_isCallable_31 : decode prog_9_method_9_code 31 = .ok (.aload 4, 2) := by decide +kernel
theorem d_Ru_isCallable_33 : decode prog_9_method_9_code 33 = .ok (.ifnull 19, 3) := by decide +kernel
theorem d_Ru_isCallable_36 : decode prog_9_method_9_code 36 = .ok (.aload 4, 2) := by decide +kernel
theorem d_Ru_isCallable_38 : decode prog_9_method_9_code 38 = .ok (.getfield 90, 3) := by decide +kernel
theorem d_Ru_isCallable_41 : decode prog_9_method_9_code 41 = .ok (.iload_n 2, 1) := by decide +kernel
theorem d_Ru_isCallable_42 : decode prog_9_method_9_code 42 = .ok (.invokevirtual 106, 3) := by decide +kernel
theorem d_Ru_isCallable_45 : decode prog_9_method_9_code 45 = .ok (.ifnull 7, 3) := by decide +kernel
theorem d_Ru_isCallable_48 : decode prog_9_method_9_code 48 = .ok (.iconst 1, 1) := by decide +kernel
theorem d_Ru_isCallable_49 : decode prog_9_method_9_code 49 = .ok (.goto 4, 3) := by decide +kernel
theorem d_Ru_isCallable_52 : decode prog_9_method_9_code 52 = .ok (.iconst 0, 1) := by decide +kernel
theorem d_Ru_isCallable_53 : decode prog_9_method_9_code 53 = .ok (.ireturn, 1) := by decide +kernel
theorem d_Sh_init_0 : decode prog_10_method_1_code 0 = .ok (.aload_n 0, 1) := by decide +kernel
theorem d_Sh_init_1 : decode prog_10_method_1_code 1 = .ok (.invokespecial 3, 3) := by decide +kernel
theorem d_Sh_init_4 : decode prog_10_method_1_code 4 = .ok (.aload_n 0, 1) := by decide +kernel
theorem d_Sh_init_5 : decode prog_10_method_1_code 5 = .ok (.bipush 6, 2) := by decide +kernel
theorem d_Sh_init_7 : decode prog_10_method_1_code 7 = .ok (.anewarray 9, 3) := by decide +kernel
theorem d_Sh_init_10 : decode prog_10_method_1_code 10 = .ok (.putfield 11, 3) := by decide +kernel
theorem d_Sh_init_13 : decode prog_10_method_1_code 13 = .ok (.return_, 1) := by decide +kernel
theorem d_Sh_find_0 : decode prog_10_method_2_code 0 = .ok (.iload_n 1, 1) := by decide +kernel
theorem d_Sh_find_1 : decode prog_10_method_2_code 1 = .ok (.ifCond .lt 18, 3) := by decide +kernel
theorem d_Sh_find_4 : decode prog_10_method_2_code 4 = .ok (.iload_n 1, 1) := by decide +kernel
theorem d_Sh_find_5 : decode prog_10_method_2_code 5 = .ok (.bipush 6, 2) := by decide +kernel
theorem d_Sh_find_7 : decode prog_10_method_2_code 7 = .ok (.if_icmp .ge 12, 3) := by decide +kernel
theorem d_Sh_find_10 : decode prog_10_method_2_code 10 = .ok (.aload_n 0, 1) := by decide +kernel
theorem d_Sh_find_11 : decode prog_10_method_2_code 11 = .ok (.getfield 11, 3) := by decide +kernel
theorem d_Sh_find_14 : decode prog_10_method_2_code 14 = .ok (.iload_n 1, 1) := by decide +kernel
theorem d_Sh_find_15 : decode prog_10_method_2_code 15 = .ok (.aaload, 1) := by decide +kernel
theorem d_Sh_find_16 : decode prog_10_method_2_code 16 = .ok (.goto 4, 3) := by decide +kernel
theorem d_Sh_find_19 : decode prog_10_method_2_code 19 = .ok (.aconst_null, 1) := by decide +kernel
theorem d_Sh_find_20 : decode prog_10_method_2_code 20 = .ok (.areturn, 1) := by decide +kernel
theorem d_Sh_add_0 : decode prog_10_method_3_code 0 = .ok (.iload_n 1, 1) := by decide +kernel
theorem d_Sh_add_1 : decode prog_10_method_3_code 1 = .ok (.invokestatic 17, 3) := by decide +kernel
theorem d_Sh_add_4 : decode prog_10_method_3_code 4 = .ok (.ifCond .ne 4, 3) := by decide +kernel
theorem d_Sh_add_7 : decode prog_10_method_3_code 7 = .ok (.return_, 1) := by decide +kernel
theorem d_Sh_add_8 : decode prog_10_method_3_code 8 = .ok (.new 9, 3) := by decide +kernel
theorem d_Sh_add_11 : decode prog_10_method_3_code 11 = .ok (.dup, 1) := by decide +kernel
theorem d_Sh_add_12 : decode prog_10_method_3_code 12 = .ok (.invokespecial 21, 3) := by decide +kernel
theorem d_Sh_add_15 : decode prog_10_method_3_code 15 = .ok (.astore_n 3, 1) := by decide +kernel
theorem d_Sh_add_16 : decode prog_10_method_3_code 16 = .ok (.aload_n 3, 1) := by decide +kernel
theorem d_Sh_add_17 : decode prog_10_method_3_code 17 = .ok (.aload_n 2, 1) := by decide +kernel
theorem d_Sh_add_18 : decode prog_10_method_3_code 18 = .ok (.getfield 22, 3) := by decide +kernel
theorem d_Sh_add_21 : decode prog_10_method_3_code 21 = .ok (.invokevirtual 28, 3) := by decide +kernel
theorem d_Sh_add_24 : decode prog_10_method_3_code 24 = .ok (.aload_n 3, 1) := by decide +kernel
theorem d_Sh_add_25 : decode prog_10_method_3_code 25 = .ok (.getfield 32, 3) := by decide +kernel
theorem d_Sh_add_28 : decode prog_10_method_3_code 28 = .ok (.aload_n 2, 1) := by decide +kernel
theorem d_Sh_add_29 : decode prog_10_method_3_code 29 = .ok (.getfield 35, 3) := by decide +kernel
theorem d_Sh_add_32 : decode prog_10_method_3_code 32 = .ok (.invokevirtual 36, 3) := by decide +kernel
theorem d_Sh_add_35 : decode prog_10_method_3_code 35 = .ok (.aload_n 0, 1) := by decide +kernel
theorem d_Sh_add_36 : decode prog_10_method_3_code 36 = .ok (.getfield 11, 3) := by decide +kernel
theorem d_Sh_add_39 : decode prog_10_method_3_code 39 = .ok (.iload_n 1, 1) := by decide +kernel
theorem d_Sh_add_40 : decode prog_10_method_3_code 40 = .ok (.aload_n 3, 1) := by decide +kernel
theorem d_Sh_add_41 : decode prog_10_method_3_code 41 = .ok (.aastore, 1) := by decide +kernel
theorem d_Sh_add_42 : decode prog_10_method_3_code 42 = .ok (.return_, 1) := by decide +kernel
theorem d_Tf_init_0 : decode prog_11_method_1_code 0 = .ok (.aload_n 0, 1) := by decide +kernel
theorem d_Tf_init_1 : decode prog_11_method_1_code 1 = .ok (.invokespecial 3, 3) := by decide +kernel
theorem d_Tf_init_4 : decode prog_11_method_1_code 4 = .ok (.aload_n 0, 1) := by decide +kernel
theorem d_Tf_init_5 : decode prog_11_method_1_code 5 = .ok (.iconst 0, 1) := by decide +kernel
theorem d_Tf_init_6 : decode prog_11_method_1_code 6 = .ok (.putfield 9, 3) := by decide +kernel
theorem d_Tf_init_9 : decode prog_11_method_1_code 9 = .ok (.aload_n 0, 1) := by decide +kernel
theorem d_Tf_init_10 : decode prog_11_method_1_code 10 = .ok (.iconst 0, 1) := by decide +kernel
theorem d_Tf_init_11 : decode prog_11_method_1_code 11 = .ok (.putfield 15, 3) := by decide +kernel
theorem d_Tf_init_14 : decode prog_11_method_1_code 14 = .ok (.aload_n 0, 1) := by decide +kernel
theorem d_Tf_init_15 : decode prog_11_method_1_code 15 = .ok (.iconst 0, 1) := by decide +kernel
theorem d_Tf_init_16 : decode prog_11_method_1_code 16 = .ok (.putfield 19, 3) := by decide +kernel
theorem d_Tf_init_19 : decode prog_11_method_1_code 19 = .ok (.aload_n 0, 1) := by decide +kernel
theorem d_Tf_init_20 : decode prog_11_method_1_code 20 = .ok (.iconst (-1), 1) := by decide +kernel
theorem d_Tf_init_21 : decode prog_11_method_1_code 21 = .ok (.putfield 22, 3) := by decide +kernel
theorem d_Tf_init_24 : decode prog_11_method_1_code 24 = .ok (.aload_n 0, 1) := by decide +kernel
theorem d_Tf_init_25 : decode prog_11_method_1_code 25 = .ok (.iconst 0, 1) := by decide +kernel
theorem d_Tf_init_26 : decode prog_11_method_1_code 26 = .ok (.putfield 25, 3) := by decide +kernel
theorem d_Tf_init_29 : decode prog_11_method_1_code 29 = .ok (.return_, 1) := by decide +kernel
theorem d_Tf_isFor_0 : decode prog_11_method_2_code 0 = .ok (.aload_n 0, 1) := by decide +kernel
theorem d_Tf_isFor_1 : decode prog_11_method_2_code 1 = .ok (.getfield 22, 3) := by decide +kernel
theorem d_Tf_isFor_4 : decode prog_11_method_2_code 4 = .ok (.iconst (-1), 1) := by decide +kernel
theorem d_Tf_isFor_5 : decode prog_11_method_2_code 5 = .ok (.if_icmp .eq 11, 3) := by decide +kernel
theorem d_Tf_isFor_8 : decode prog_11_method_2_code 8 = .ok (.aload_n 0, 1) := by decide +kernel
theorem d_Tf_isFor_9 : decode prog_11_method_2_code 9 = .ok (.getfield 22, 3) := by decide +kernel
theorem d_Tf_isFor_12 : decode prog_11_method_2_code 12 = .ok (.iload_n 1, 1) := by decide +kernel
theorem d_Tf_isFor_13 : decode prog_11_method_2_code 13 = .ok (.if_icmp .ne 7, 3) := by decide +kernel
theorem d_Tf_isFor_16 : decode prog_11_method_2_code 16 = .ok (.iconst 1, 1) := by decide +kernel
theorem d_Tf_isFor_17 : decode prog_11_method_2_code 17 = .ok (.goto 4, 3) := by decide +kernel
theorem d_Tf_isFor_20 : decode prog_11_method_2_code 20 = .ok (.iconst 0, 1) := by decide +kernel
theorem d_Tf_isFor_21 : decode prog_11_method_2_code 21 = .ok (.ireturn, 1) := by decide +kernel
theorem d_Tf_change_0 : decode prog_11_method_3_code 0 = .ok (.aload_n 0, 1) := by decide +kernel
theorem d_Tf_change_1 : decode prog_11_method_3_code 1 = .ok (.getfield 15, 3) := by decide +kernel
theorem d_Tf_change_4 : decode prog_11_method_3_code 4 = .ok (.tableswitch 121 1 4 #[32, 67, 80, 98], 32) := by decide +kernel
theorem d_Tf_change_36 : decode prog_11_method_3_code 36 = .ok (.iconst 0, 1) := by decide +kernel
theorem d_Tf_change_37 : decode prog_11_method_3_code 37 = .ok (.istore_n 2, 1) := by decide +kernel
theorem d_Tf_change_38 : decode prog_11_method_3_code 38 = .ok (.iload_n 2, 1) := by decide +kernel
theorem d_Tf_change_39 : decode prog_11_method_3_code 39 = .ok (.aload_n 1, 1) := by decide +kernel
theorem d_Tf_change_40 : decode prog_11_method_3_code 40 = .ok (.getfield 28, 3) := by decide +kernel
theorem d_Tf_change_43 : decode prog_11_method_3_code 43 = .ok (.if_icmp .ge 25, 3) := by decide +kernel
theorem d_Tf_change_46 : decode prog_11_method_3_code 46 = .ok (.aload_n 1, 1) := by decide +kernel
theorem d_Tf_change_47 : decode prog_11_method_3_code 47 = .ok (.getfield 33, 3) := by decide +kernel
theorem d_Tf_change_50 : decode prog_11_method_3_code 50 = .ok (.iload_n 2, 1) := by decide +kernel
theorem d_Tf_change_51 : decode prog_11_method_3_code 51 = .ok (.aaload, 1) := by decide +kernel
theorem d_Tf_change_52 : decode prog_11_method_3_code 52 = .ok (.getfield 37, 3) := by decide +kernel
theorem d_Tf_change_55 : decode prog_11_method_3_code 55 = .ok (.aload_n 0, 1) := by decide +kernel
theorem d_Tf_change_56 : decode prog_11_method_3_code 56 = .ok (.getfield 19, 3) := by decide +kernel
theorem d_Tf_change_59 : decode prog_11_method_3_code 59 = .ok (.invokevirtual 43, 3) := by decide +kernel
theorem d_Tf_change_62 : decode prog_11_method_3_code 62 = .ok (.iinc 2 1, 3) := by decide +kernel
theorem d_Tf_change_65 : decode prog_11_method_3_code 65 = .ok (.goto (-27), 3) := by decide +kernel
theorem d_Tf_change_68 : decode prog_11_method_3_code 68 = .ok (.goto 57, 3) := by decide +kernel
theorem d_Tf_change_71 : decode prog_11_method_3_code 71 = .ok (.aload_n 1, 1) := by decide +kernel
theorem d_Tf_change_72 : decode prog_11_method_3_code 72 = .ok (.getfield 49, 3) := by decide +kernel
theorem d_Tf_change_75 : decode prog_11_method_3_code 75 = .ok (.iconst 3, 1) := by decide +kernel
theorem d_Tf_change_76 : decode prog_11_method_3_code 76 = .ok (.aload_n 0, 1) := by decide +kernel
theorem d_Tf_change_77 : decode prog_11_method_3_code 77 = .ok (.getfield 19, 3) := by decide +kernel
theorem d_Tf_change_80 : decode prog_11_method_3_code 80 = .ok (.iastore, 1) := by decide +kernel
theorem d_Tf_change_81 : decode prog_11_method_3_code 81 = .ok (.goto 44, 3) := by decide +kernel
theorem d_Tf_change_84 : decode prog_11_method_3_code 84 = .ok (.aload_n 1, 1) := by decide +kernel
theorem d_Tf_change_85 : decode prog_11_method_3_code 85 = .ok (.aload_n 0, 1) := by decide +kernel
theorem d_Tf_change_86 : decode prog_11_method_3_code 86 = .ok (.getfield 19, 3) := by decide +kernel
theorem d_Tf_change_89 : decode prog_11_method_3_code 89 = .ok (.invokevirtual 53, 3) := by decide +kernel
theorem d_Tf_change_92 : decode prog_11_method_3_code 92 = .ok (.ifnull 33, 3) := by decide +kernel
theorem d_Tf_change_95 : decode prog_11_method_3_code 95 = .ok (.aload_n 1, 1) := by decide +kernel
theorem d_Tf_change_96 : decode prog_11_method_3_code 96 = .ok (.invokestatic 57, 3) := by decide +kernel
theorem d_Tf_change_99 : decode prog_11_method_3_code 99 = .ok (.goto 26, 3) := by decide +kernel
theorem d_Tf_change_102 : decode prog_11_method_3_code 102 = .ok (.aload_n 1, 1) := by decide +kernel
theorem d_Tf_change_103 : decode prog_11_method_3_code 103 = .ok (.getfield 28, 3) := by decide +kernel
theorem d_Tf_change_106 : decode prog_11_method_3_code 106 = .ok (.ifCond .le 19, 3) := by decide +kernel
theorem d_Tf_change_109 : decode prog_11_method_3_code 109 = .ok (.aload_n 1, 1) := by decide +kernel
theorem d_Tf_change_110 : decode prog_11_method_3_code 110 = .ok (.getfield 33, 3) := by decide +kernel
theorem d_Tf_change_113 : decode prog_11_method_3_code 113 = .ok (.iconst 0, 1) := by decide +kernel
theorem d_Tf_change_114 : decode prog_11_method_3_code 114 = .ok (.aaload, 1) := by decide +kernel
theorem d_Tf_change_115 : decode prog_11_method_3_code 115 = .ok (.aload_n 0, 1) := by decide +kernel
theorem d_Tf_change_116 : decode prog_11_method_3_code 116 = .ok (.getfield 19, 3) := by decide +kernel
theorem d_Tf_change_119 : decode prog_11_method_3_code 119 = .ok (.putfield 61, 3) := by decide +kernel
theorem d_Tf_change_122 : decode prog_11_method_3_code 122 = .ok (.goto 3, 3) := by decide +kernel
theorem d_Tf_change_125 : decode prog_11_method_3_code 125 = .ok (.return_, 1) := by decide +kernel
theorem d_Tf_emptyAllCode_0 : decode prog_11_method_4_code 0 = .ok (.iconst 0, 1) := by decide +kernel
theorem d_Tf_emptyAllCode_1 : decode prog_11_method_4_code 1 = .ok (.istore_n 1, 1) := by decide +kernel
theorem d_Tf_emptyAllCode_2 : decode prog_11_method_4_code 2 = .ok (.iload_n 1, 1) := by decide +kernel
theorem d_Tf_emptyAllCode_3 : decode prog_11_method_4_code 3 = .ok (.aload_n 0, 1) := by decide +kernel
theorem d_Tf_emptyAllCode_4 : decode prog_11_method_4_code 4 = .ok (.getfield 28, 3) := by decide +kernel
theorem d_Tf_emptyAllCode_7 : decode prog_11_method_4_code 7 = .ok (.if_icmp .ge 21, 3) := by decide +kernel
theorem d_Tf_emptyAllCode_10 : decode prog_11_method_4_code 10 = .ok (.aload_n 0, 1) := by decide +kernel
theorem d_Tf_emptyAllCode_11 : decode prog_11_method_4_code 11 = .ok (.getfield 33, 3) := by decide +kernel
theorem d_Tf_emptyAllCode_14 : decode prog_11_method_4_code 14 = .ok (.iload_n 1, 1) := by decide +kernel
theorem d_Tf_emptyAllCode_15 : decode prog_11_method_4_code 15 = .ok (.aaload, 1) := by decide +kernel
theorem d_Tf_emptyAllCode_16 : decode prog_11_method_4_code 16 = .ok (.getfield 37, 3) := by decide +kernel
theorem d_Tf_emptyAllCode_19 : decode prog_11_method_4_code 19 = .ok (.invokevirtual 64, 3) := by decide +kernel
theorem d_Tf_emptyAllCode_22 : decode prog_11_method_4_code 22 = .ok (.iinc 1 1, 3) := by decide +kernel
theorem d_Tf_emptyAllCode_25 : decode prog_11_method_4_code 25 = .ok (.goto (-23), 3) := by decide +kernel
theorem d_Tf_emptyAllCode_28 : decode prog_11_method_4_code 28 = .ok (.return_, 1) := by decide +kernel
theorem d_Tr_init_0 : decode prog_12_method_1_code 0 = .ok (.aload_n 0, 1) := by decide +kernel
theorem d_Tr_init_1 : decode prog_12_method_1_code 1 = .ok (.invokespecial 3, 3) := by decide +kernel
theorem d_Tr_init_4 : decode prog_12_method_1_code 4 = .ok (.aload_n 0, 1) := by decide +kernel
theorem d_Tr_init_5 : decode prog_12_method_1_code 5 = .ok (.iconst (-1), 1) := by decide +kernel
theorem d_Tr_init_6 : decode prog_12_method_1_code 6 = .ok (.putfield 9, 3) := by decide +kernel
theorem d_Tr_init_9 : decode prog_12_method_1_code 9 = .ok (.aload_n 0, 1) := by decide +kernel
theorem d_Tr_init_10 : decode prog_12_method_1_code 10 = .ok (.new 15, 3) := by decide +kernel
theorem d_Tr_init_13 : decode prog_12_method_1_code 13 = .ok (.dup, 1) := by decide +kernel
theorem d_Tr_init_14 : decode prog_12_method_1_code 14 = .ok (.invokespecial 17, 3) := by decide +kernel
theorem d_Tr_init_17 : decode prog_12_method_1_code 17 = .ok (.putfield 18, 3) := by decide +kernel
theorem d_Tr_init_20 : decode prog_12_method_1_code 20 = .ok (.aload_n 0, 1) := by decide +kernel
theorem d_Tr_init_21 : decode prog_12_method_1_code 21 = .ok (.new 15, 3) := by decide +kernel
theorem d_Tr_init_24 : decode prog_12_method_1_code 24 = .ok (.dup, 1) := by decide +kernel
theorem d_Tr_init_25 : decode prog_12_method_1_code 25 = .ok (.invokespecial 17, 3) := by decide +kernel
theorem d_Tr_init_28 : decode prog_12_method_1_code 28 = .ok (.putfield 22, 3) := by decide +kernel
theorem d_Tr_init_31 : decode prog_12_method_1_code 31 = .ok (.return_, 1) := by decide +kernel
theorem d_Tr_take_0 : decode prog_12_method_2_code 0 = .ok (.aload_n 0, 1) := by decide +kernel
theorem d_Tr_take_1 : decode prog_12_method_2_code 1 = .ok (.getfield 18, 3) := by decide +kernel
theorem d_Tr_take_4 : decode prog_12_method_2_code 4 = .ok (.aload_n 1, 1) := by decide +kernel
theorem d_Tr_take_5 : decode prog_12_method_2_code 5 = .ok (.invokevirtual 25, 3) := by decide +kernel
theorem d_Tr_take_8 : decode prog_12_method_2_code 8 = .ok (.aload_n 0, 1) := by decide +kernel
theorem d_Tr_take_9 : decode prog_12_method_2_code 9 = .ok (.iload_n 2, 1) := by decide +kernel
theorem d_Tr_take_10 : decode prog_12_method_2_code 10 = .ok (.putfield 9, 3) := by decide +kernel
theorem d_Tr_take_13 : decode prog_12_method_2_code 13 = .ok (.return_, 1) := by decide +kernel
end
section
/-! Decode rows of the reference. -/
theorem d_Mo_init_0 : decode prog_14_method_1_code 0 = .ok (.aload_n 0, 1) := by decide +kernel
theorem d_Mo_init_1 : decode prog_14_method_1_code 1 = .ok (.invokespecial 1, 3) := by decide +kernel
theorem d_Mo_init_4 : decode prog_14_method_1_code 4 = .ok (.aload_n 0, 1) := by decide +kernel
theorem d_Mo_init_5 : decode prog_14_method_1_code 5 = .ok (.sipush 4387, 3) := by decide +kernel
theorem d_Mo_init_8 : decode prog_14_method_1_code 8 = .ok (.newarray .int, 2) := by decide +kernel
theorem d_Mo_init_10 : decode prog_14_method_1_code 10 = .ok (.putfield 7, 3) := by decide +kernel
theorem d_Mo_init_13 : decode prog_14_method_1_code 13 = .ok (.aload_n 0, 1) := by decide +kernel
theorem d_Mo_init_14 : decode prog_14_method_1_code 14 = .ok (.iconst (-1), 1) := by decide +kernel
theorem d_Mo_init_15 : decode prog_14_method_1_code 15 = .ok (.putfield 13, 3) := by decide +kernel
theorem d_Mo_init_18 : decode prog_14_method_1_code 18 = .ok (.aload_n 0, 1) := by decide +kernel
theorem d_Mo_init_19 : decode prog_14_method_1_code 19 = .ok (.bipush 6, 2) := by decide +kernel
theorem d_Mo_init_21 : decode prog_14_method_1_code 21 = .ok (.newarray .int, 2) := by decide +kernel
theorem d_Mo_init_23 : decode prog_14_method_1_code 23 = .ok (.putfield 17, 3) := by decide +kernel
theorem d_Mo_init_26 : decode prog_14_method_1_code 26 = .ok (.aload_n 0, 1) := by decide +kernel
theorem d_Mo_init_27 : decode prog_14_method_1_code 27 = .ok (.bipush 6, 2) := by decide +kernel
theorem d_Mo_init_29 : decode prog_14_method_1_code 29 = .ok (.newarray .int, 2) := by decide +kernel
theorem d_Mo_init_31 : decode prog_14_method_1_code 31 = .ok (.putfield 20, 3) := by decide +kernel
theorem d_Mo_init_34 : decode prog_14_method_1_code 34 = .ok (.aload_n 0, 1) := by decide +kernel
theorem d_Mo_init_35 : decode prog_14_method_1_code 35 = .ok (.bipush 41, 2) := by decide +kernel
theorem d_Mo_init_37 : decode prog_14_method_1_code 37 = .ok (.newarray .int, 2) := by decide +kernel
theorem d_Mo_init_39 : decode prog_14_method_1_code 39 = .ok (.putfield 23, 3) := by decide +kernel
theorem d_Mo_init_42 : decode prog_14_method_1_code 42 = .ok (.aload_n 0, 1) := by decide +kernel
theorem d_Mo_init_43 : decode prog_14_method_1_code 43 = .ok (.bipush 41, 2) := by decide +kernel
theorem d_Mo_init_45 : decode prog_14_method_1_code 45 = .ok (.newarray .int, 2) := by decide +kernel
theorem d_Mo_init_47 : decode prog_14_method_1_code 47 = .ok (.putfield 26, 3) := by decide +kernel
theorem d_Mo_init_50 : decode prog_14_method_1_code 50 = .ok (.aload_n 0, 1) := by decide +kernel
theorem d_Mo_init_51 : decode prog_14_method_1_code 51 = .ok (.iconst 5, 1) := by decide +kernel
theorem d_Mo_init_52 : decode prog_14_method_1_code 52 = .ok (.newarray .boolean, 2) := by decide +kernel
theorem d_Mo_init_54 : decode prog_14_method_1_code 54 = .ok (.putfield 29, 3) := by decide +kernel
theorem d_Mo_init_57 : decode prog_14_method_1_code 57 = .ok (.aload_n 0, 1) := by decide +kernel
theorem d_Mo_init_58 : decode prog_14_method_1_code 58 = .ok (.iconst 5, 1) := by decide +kernel
theorem d_Mo_init_59 : decode prog_14_method_1_code 59 = .ok (.newarray .int, 2) := by decide +kernel
theorem d_Mo_init_61 : decode prog_14_method_1_code 61 = .ok (.putfield 33, 3) := by decide +kernel
theorem d_Mo_init_64 : decode prog_14_method_1_code 64 = .ok (.aload_n 0, 1) := by decide +kernel
theorem d_Mo_init_65 : decode prog_14_method_1_code 65 = .ok (.iconst 5, 1) := by decide +kernel
theorem d_Mo_init_66 : decode prog_14_method_1_code 66 = .ok (.newarray .int, 2) := by decide +kernel
theorem d_Mo_init_68 : decode prog_14_method_1_code 68 = .ok (.putfield 36, 3) := by decide +kernel
theorem d_Mo_init_71 : decode prog_14_method_1_code 71 = .ok (.aload_n 0, 1) := by decide +kernel
theorem d_Mo_init_72 : decode prog_14_method_1_code 72 = .ok (.iconst 5, 1) := by decide +kernel
theorem d_Mo_init_73 : decode prog_14_method_1_code 73 = .ok (.newarray .int, 2) := by decide +kernel
theorem d_Mo_init_75 : decode prog_14_method_1_code 75 = .ok (.putfield 39, 3) := by decide +kernel
theorem d_Mo_init_78 : decode prog_14_method_1_code 78 = .ok (.aload_n 0, 1) := by decide +kernel
theorem d_Mo_init_79 : decode prog_14_method_1_code 79 = .ok (.iconst 5, 1) := by decide +kernel
theorem d_Mo_init_80 : decode prog_14_method_1_code 80 = .ok (.newarray .boolean, 2) := by decide +kernel
theorem d_Mo_init_82 : decode prog_14_method_1_code 82 = .ok (.putfield 42, 3) := by decide +kernel
theorem d_Mo_init_85 : decode prog_14_method_1_code 85 = .ok (.aload_n 0, 1) := by decide +kernel
theorem d_Mo_init_86 : decode prog_14_method_1_code 86 = .ok (.iconst 3, 1) := by decide +kernel
theorem d_Mo_init_87 : decode prog_14_method_1_code 87 = .ok (.newarray .int, 2) := by decide +kernel
theorem d_Mo_init_89 : decode prog_14_method_1_code 89 = .ok (.putfield 45, 3) := by decide +kernel
theorem d_Mo_init_92 : decode prog_14_method_1_code 92 = .ok (.aload_n 0, 1) := by decide +kernel
theorem d_Mo_init_93 : decode prog_14_method_1_code 93 = .ok (.iconst 3, 1) := by decide +kernel
theorem d_Mo_init_94 : decode prog_14_method_1_code 94 = .ok (.newarray .int, 2) := by decide +kernel
theorem d_Mo_init_96 : decode prog_14_method_1_code 96 = .ok (.putfield 48, 3) := by decide +kernel
theorem d_Mo_init_99 : decode prog_14_method_1_code 99 = .ok (.aload_n 0, 1) := by decide +kernel
theorem d_Mo_init_100 : decode prog_14_method_1_code 100 = .ok (.bipush 15, 2) := by decide +kernel
theorem d_Mo_init_102 : decode prog_14_method_1_code 102 = .ok (.newarray .int, 2) := by decide +kernel
theorem d_Mo_init_104 : decode prog_14_method_1_code 104 = .ok (.putfield 51, 3) := by decide +kernel
theorem d_Mo_init_107 : decode prog_14_method_1_code 107 = .ok (.aload_n 0, 1) := by decide +kernel
theorem d_Mo_init_108 : decode prog_14_method_1_code 108 = .ok (.bipush 15, 2) := by decide +kernel
theorem d_Mo_init_110 : decode prog_14_method_1_code 110 = .ok (.newarray .int, 2) := by decide +kernel
theorem d_Mo_init_112 : decode prog_14_method_1_code 112 = .ok (.putfield 54, 3) := by decide +kernel
theorem d_Mo_init_115 : decode prog_14_method_1_code 115 = .ok (.aload_n 0, 1) := by decide +kernel
theorem d_Mo_init_116 : decode prog_14_method_1_code 116 = .ok (.bipush 15, 2) := by decide +kernel
theorem d_Mo_init_118 : decode prog_14_method_1_code 118 = .ok (.newarray .int, 2) := by decide +kernel
theorem d_Mo_init_120 : decode prog_14_method_1_code 120 = .ok (.putfield 57, 3) := by decide +kernel
theorem d_Mo_init_123 : decode prog_14_method_1_code 123 = .ok (.aload_n 0, 1) := by decide +kernel
theorem d_Mo_init_124 : decode prog_14_method_1_code 124 = .ok (.bipush 15, 2) := by decide +kernel
theorem d_Mo_init_126 : decode prog_14_method_1_code 126 = .ok (.newarray .int, 2) := by decide +kernel
theorem d_Mo_init_128 : decode prog_14_method_1_code 128 = .ok (.putfield 60, 3) := by decide +kernel
theorem d_Mo_init_131 : decode prog_14_method_1_code 131 = .ok (.aload_n 0, 1) := by decide +kernel
theorem d_Mo_init_132 : decode prog_14_method_1_code 132 = .ok (.iconst 3, 1) := by decide +kernel
theorem d_Mo_init_133 : decode prog_14_method_1_code 133 = .ok (.newarray .int, 2) := by decide +kernel
theorem d_Mo_init_135 : decode prog_14_method_1_code 135 = .ok (.putfield 63, 3) := by decide +kernel
theorem d_Mo_init_138 : decode prog_14_method_1_code 138 = .ok (.aload_n 0, 1) := by decide +kernel
theorem d_Mo_init_139 : decode prog_14_method_1_code 139 = .ok (.invokevirtual 66, 3) := by decide +kernel
theorem d_Mo_init_142 : decode prog_14_method_1_code 142 = .ok (.return_, 1) := by decide +kernel
theorem d_Mo_get_0 : decode prog_14_method_2_code 0 = .ok (.aload_n 0, 1) := by decide +kernel
theorem d_Mo_get_1 : decode prog_14_method_2_code 1 = .ok (.getfield 7, 3) := by decide +kernel
theorem d_Mo_get_4 : decode prog_14_method_2_code 4 = .ok (.bipush 107, 2) := by decide +kernel
theorem d_Mo_get_6 : decode prog_14_method_2_code 6 = .ok (.iload_n 1, 1) := by decide +kernel
theorem d_Mo_get_7 : decode prog_14_method_2_code 7 = .ok (.imul, 1) := by decide +kernel
theorem d_Mo_get_8 : decode prog_14_method_2_code 8 = .ok (.iload_n 2, 1) := by decide +kernel
theorem d_Mo_get_9 : decode prog_14_method_2_code 9 = .ok (.iadd, 1) := by decide +kernel
theorem d_Mo_get_10 : decode prog_14_method_2_code 10 = .ok (.iaload, 1) := by decide +kernel
theorem d_Mo_get_11 : decode prog_14_method_2_code 11 = .ok (.ireturn, 1) := by decide +kernel
theorem d_Mo_put_0 : decode prog_14_method_3_code 0 = .ok (.aload_n 0, 1) := by decide +kernel
theorem d_Mo_put_1 : decode prog_14_method_3_code 1 = .ok (.getfield 7, 3) := by decide +kernel
theorem d_Mo_put_4 : decode prog_14_method_3_code 4 = .ok (.bipush 107, 2) := by decide +kernel
theorem d_Mo_put_6 : decode prog_14_method_3_code 6 = .ok (.iload_n 1, 1) := by decide +kernel
theorem d_Mo_put_7 : decode prog_14_method_3_code 7 = .ok (.imul, 1) := by decide +kernel
theorem d_Mo_put_8 : decode prog_14_method_3_code 8 = .ok (.iload_n 2, 1) := by decide +kernel
theorem d_Mo_put_9 : decode prog_14_method_3_code 9 = .ok (.iadd, 1) := by decide +kernel
theorem d_Mo_put_10 : decode prog_14_method_3_code 10 = .ok (.iload_n 3, 1) := by decide +kernel
theorem d_Mo_put_11 : decode prog_14_method_3_code 11 = .ok (.iastore, 1) := by decide +kernel
theorem d_Mo_put_12 : decode prog_14_method_3_code 12 = .ok (.return_, 1) := by decide +kernel
theorem d_Mo_transcribe_0 : decode prog_14_method_4_code 0 = .ok (.iconst 0, 1) := by decide +kernel
theorem d_Mo_transcribe_1 : decode prog_14_method_4_code 1 = .ok (.istore_n 3, 1) := by decide +kernel
theorem d_Mo_transcribe_2 : decode prog_14_method_4_code 2 = .ok (.iload_n 3, 1) := by decide +kernel
theorem d_Mo_transcribe_3 : decode prog_14_method_4_code 3 = .ok (.bipush 107, 2) := by decide +kernel
theorem d_Mo_transcribe_5 : decode prog_14_method_4_code 5 = .ok (.if_icmp .ge 21, 3) := by decide +kernel
theorem d_Mo_transcribe_8 : decode prog_14_method_4_code 8 = .ok (.aload_n 0, 1) := by decide +kernel
theorem d_Mo_transcribe_9 : decode prog_14_method_4_code 9 = .ok (.iload_n 2, 1) := by decide +kernel
theorem d_Mo_transcribe_10 : decode prog_14_method_4_code 10 = .ok (.iload_n 3, 1) := by decide +kernel
theorem d_Mo_transcribe_11 : decode prog_14_method_4_code 11 = .ok (.aload_n 0, 1) := by decide +kernel
theorem d_Mo_transcribe_12 : decode prog_14_method_4_code 12 = .ok (.iload_n 1, 1) := by decide +kernel
theorem d_Mo_transcribe_13 : decode prog_14_method_4_code 13 = .ok (.iload_n 3, 1) := by decide +kernel
theorem d_Mo_transcribe_14 : decode prog_14_method_4_code 14 = .ok (.invokevirtual 69, 3) := by decide +kernel
theorem d_Mo_transcribe_17 : decode prog_14_method_4_code 17 = .ok (.invokevirtual 73, 3) := by decide +kernel
theorem d_Mo_transcribe_20 : decode prog_14_method_4_code 20 = .ok (.iinc 3 1, 3) := by decide +kernel
theorem d_Mo_transcribe_23 : decode prog_14_method_4_code 23 = .ok (.goto (-21), 3) := by decide +kernel
theorem d_Mo_transcribe_26 : decode prog_14_method_4_code 26 = .ok (.return_, 1) := by decide +kernel
theorem d_Mo_loaded_0 : decode prog_14_method_5_code 0 = .ok (.iload_n 1, 1) := by decide +kernel
theorem d_Mo_loaded_1 : decode prog_14_method_5_code 1 = .ok (.ifCond .lt 21, 3) := by decide +kernel
theorem d_Mo_loaded_4 : decode prog_14_method_5_code 4 = .ok (.iload_n 1, 1) := by decide +kernel
theorem d_Mo_loaded_5 : decode prog_14_method_5_code 5 = .ok (.iconst 5, 1) := by decide +kernel
theorem d_Mo_loaded_6 : decode prog_14_method_5_code 6 = .ok (.if_icmp .gt 16, 3) := by decide +kernel
theorem d_Mo_loaded_9 : decode prog_14_method_5_code 9 = .ok (.aload_n 0, 1) := by decide +kernel
theorem d_Mo_loaded_10 : decode prog_14_method_5_code 10 = .ok (.getfield 17, 3) := by decide +kernel
theorem d_Mo_loaded_13 : decode prog_14_method_5_code 13 = .ok (.iload_n 1, 1) := by decide +kernel
theorem d_Mo_loaded_14 : decode prog_14_method_5_code 14 = .ok (.iaload, 1) := by decide +kernel
theorem d_Mo_loaded_15 : decode prog_14_method_5_code 15 = .ok (.ifCond .le 7, 3) := by decide +kernel
theorem d_Mo_loaded_18 : decode prog_14_method_5_code 18 = .ok (.iconst 1, 1) := by decide +kernel
theorem d_Mo_loaded_19 : decode prog_14_method_5_code 19 = .ok (.goto 4, 3) := by decide +kernel
theorem d_Mo_loaded_22 : decode prog_14_method_5_code 22 = .ok (.iconst 0, 1) := by decide +kernel
theorem d_Mo_loaded_23 : decode prog_14_method_5_code 23 = .ok (.ireturn, 1) := by decide +kernel
theorem d_Mo_blank_0 : decode prog_14_method_6_code 0 = .ok (.iconst 0, 1) := by decide +kernel
theorem d_Mo_blank_1 : decode prog_14_method_6_code 1 = .ok (.istore_n 1, 1) := by decide +kernel
theorem d_Mo_blank_2 : decode prog_14_method_6_code 2 = .ok (.iload_n 1, 1) := by decide +kernel
theorem d_Mo_blank_3 : decode prog_14_method_6_code 3 = .ok (.bipush 107, 2) := by decide +kernel
theorem d_Mo_blank_5 : decode prog_14_method_6_code 5 = .ok (.if_icmp .ge 16, 3) := by decide +kernel
theorem d_Mo_blank_8 : decode prog_14_method_6_code 8 = .ok (.aload_n 0, 1) := by decide +kernel
theorem d_Mo_blank_9 : decode prog_14_method_6_code 9 = .ok (.iconst 0, 1) := by decide +kernel
theorem d_Mo_blank_10 : decode prog_14_method_6_code 10 = .ok (.iload_n 1, 1) := by decide +kernel
theorem d_Mo_blank_11 : decode prog_14_method_6_code 11 = .ok (.iconst 0, 1) := by decide +kernel
theorem d_Mo_blank_12 : decode prog_14_method_6_code 12 = .ok (.invokevirtual 73, 3) := by decide +kernel
theorem d_Mo_blank_15 : decode prog_14_method_6_code 15 = .ok (.iinc 1 1, 3) := by decide +kernel
theorem d_Mo_blank_18 : decode prog_14_method_6_code 18 = .ok (.goto (-16), 3) := by decide +kernel
theorem d_Mo_blank_21 : decode prog_14_method_6_code 21 = .ok (.aload_n 0, 1) := by decide +kernel
theorem d_Mo_blank_22 : decode prog_14_method_6_code 22 = .ok (.iconst 0, 1) := by decide +kernel
theorem d_Mo_blank_23 : decode prog_14_method_6_code 23 = .ok (.iconst 0, 1) := by decide +kernel
theorem d_Mo_blank_24 : decode prog_14_method_6_code 24 = .ok (.iconst 1, 1) := by decide +kernel
theorem d_Mo_blank_25 : decode prog_14_method_6_code 25 = .ok (.invokevirtual 73, 3) := by decide +kernel
theorem d_Mo_blank_28 : decode prog_14_method_6_code 28 = .ok (.aload_n 0, 1) := by decide +kernel
theorem d_Mo_blank_29 : decode prog_14_method_6_code 29 = .ok (.iconst 0, 1) := by decide +kernel
theorem d_Mo_blank_30 : decode prog_14_method_6_code 30 = .ok (.iconst 2, 1) := by decide +kernel
theorem d_Mo_blank_31 : decode prog_14_method_6_code 31 = .ok (.iconst (-1), 1) := by decide +kernel
theorem d_Mo_blank_32 : decode prog_14_method_6_code 32 = .ok (.invokevirtual 73, 3) := by decide +kernel
theorem d_Mo_blank_35 : decode prog_14_method_6_code 35 = .ok (.aload_n 0, 1) := by decide +kernel
theorem d_Mo_blank_36 : decode prog_14_method_6_code 36 = .ok (.iconst (-1), 1) := by decide +kernel
theorem d_Mo_blank_37 : decode prog_14_method_6_code 37 = .ok (.putfield 13, 3) := by decide +kernel
theorem d_Mo_blank_40 : decode prog_14_method_6_code 40 = .ok (.return_, 1) := by decide +kernel
theorem d_Mo_copy_0 : decode prog_14_method_7_code 0 = .ok (.aload_n 0, 1) := by decide +kernel
theorem d_Mo_copy_1 : decode prog_14_method_7_code 1 = .ok (.iload_n 1, 1) := by decide +kernel
theorem d_Mo_copy_2 : decode prog_14_method_7_code 2 = .ok (.invokevirtual 77, 3) := by decide +kernel
theorem d_Mo_copy_5 : decode prog_14_method_7_code 5 = .ok (.ifCond .ne 5, 3) := by decide +kernel
theorem d_Mo_copy_8 : decode prog_14_method_7_code 8 = .ok (.iconst 0, 1) := by decide +kernel
theorem d_Mo_copy_9 : decode prog_14_method_7_code 9 = .ok (.ireturn, 1) := by decide +kernel
theorem d_Mo_copy_10 : decode prog_14_method_7_code 10 = .ok (.aload_n 0, 1) := by decide +kernel
theorem d_Mo_copy_11 : decode prog_14_method_7_code 11 = .ok (.aload_n 0, 1) := by decide +kernel
theorem d_Mo_copy_12 : decode prog_14_method_7_code 12 = .ok (.getfield 17, 3) := by decide +kernel
theorem d_Mo_copy_15 : decode prog_14_method_7_code 15 = .ok (.iload_n 1, 1) := by decide +kernel
theorem d_Mo_copy_16 : decode prog_14_method_7_code 16 = .ok (.iaload, 1) := by decide +kernel
theorem d_Mo_copy_17 : decode prog_14_method_7_code 17 = .ok (.iconst 0, 1) := by decide +kernel
theorem d_Mo_copy_18 : decode prog_14_method_7_code 18 = .ok (.invokevirtual 81, 3) := by decide +kernel
theorem d_Mo_copy_21 : decode prog_14_method_7_code 21 = .ok (.aload_n 0, 1) := by decide +kernel
theorem d_Mo_copy_22 : decode prog_14_method_7_code 22 = .ok (.iconst (-1), 1) := by decide +kernel
theorem d_Mo_copy_23 : decode prog_14_method_7_code 23 = .ok (.putfield 13, 3) := by decide +kernel
theorem d_Mo_copy_26 : decode prog_14_method_7_code 26 = .ok (.iconst 1, 1) := by decide +kernel
theorem d_Mo_copy_27 : decode prog_14_method_7_code 27 = .ok (.ireturn, 1) := by decide +kernel
theorem d_Mo_set_0 : decode prog_14_method_8_code 0 = .ok (.iload_n 1, 1) := by decide +kernel
theorem d_Mo_set_1 : decode prog_14_method_8_code 1 = .ok (.ifCond .lt 8, 3) := by decide +kernel
theorem d_Mo_set_4 : decode prog_14_method_8_code 4 = .ok (.iload_n 1, 1) := by decide +kernel
theorem d_Mo_set_5 : decode prog_14_method_8_code 5 = .ok (.iconst 4, 1) := by decide +kernel
theorem d_Mo_set_6 : decode prog_14_method_8_code 6 = .ok (.if_icmp .le 5, 3) := by decide +kernel
theorem d_Mo_set_9 : decode prog_14_method_8_code 9 = .ok (.iconst 0, 1) := by decide +kernel
theorem d_Mo_set_10 : decode prog_14_method_8_code 10 = .ok (.ireturn, 1) := by decide +kernel
theorem d_Mo_set_11 : decode prog_14_method_8_code 11 = .ok (.aload_n 0, 1) := by decide +kernel
theorem d_Mo_set_12 : decode prog_14_method_8_code 12 = .ok (.iconst 0, 1) := by decide +kernel
theorem d_Mo_set_13 : decode prog_14_method_8_code 13 = .ok (.iload_n 1, 1) := by decide +kernel
theorem d_Mo_set_14 : decode prog_14_method_8_code 14 = .ok (.iload_n 2, 1) := by decide +kernel
theorem d_Mo_set_15 : decode prog_14_method_8_code 15 = .ok (.invokevirtual 73, 3) := by decide +kernel
theorem d_Mo_set_18 : decode prog_14_method_8_code 18 = .ok (.iconst 1, 1) := by decide +kernel
theorem d_Mo_set_19 : decode prog_14_method_8_code 19 = .ok (.ireturn, 1) := by decide +kernel
theorem d_Mo_implement_0 : decode prog_14_method_9_code 0 = .ok (.aload_n 0, 1) := by decide +kernel
theorem d_Mo_implement_1 : decode prog_14_method_9_code 1 = .ok (.iconst 0, 1) := by decide +kernel
theorem d_Mo_implement_2 : decode prog_14_method_9_code 2 = .ok (.iconst 5, 1) := by decide +kernel
theorem d_Mo_implement_3 : decode prog_14_method_9_code 3 = .ok (.invokevirtual 69, 3) := by decide +kernel
theorem d_Mo_implement_6 : decode prog_14_method_9_code 6 = .ok (.istore_n 2, 1) := by decide +kernel
theorem d_Mo_implement_7 : decode prog_14_method_9_code 7 = .ok (.iload_n 2, 1) := by decide +kernel
theorem d_Mo_implement_8 : decode prog_14_method_9_code 8 = .ok (.iconst 3, 1) := by decide +kernel
theorem d_Mo_implement_9 : decode prog_14_method_9_code 9 = .ok (.if_icmp .ne 5, 3) := by decide +kernel
theorem d_Mo_implement_12 : decode prog_14_method_9_code 12 = .ok (.iconst 0, 1) := by decide +kernel
theorem d_Mo_implement_13 : decode prog_14_method_9_code 13 = .ok (.ireturn, 1) := by decide +kernel
theorem d_Mo_implement_14 : decode prog_14_method_9_code 14 = .ok (.aload_n 0, 1) := by decide +kernel
theorem d_Mo_implement_15 : decode prog_14_method_9_code 15 = .ok (.iconst 0, 1) := by decide +kernel
theorem d_Mo_implement_16 : decode prog_14_method_9_code 16 = .ok (.bipush 6, 2) := by decide +kernel
theorem d_Mo_implement_18 : decode prog_14_method_9_code 18 = .ok (.iload_n 2, 1) := by decide +kernel
theorem d_Mo_implement_19 : decode prog_14_method_9_code 19 = .ok (.iadd, 1) := by decide +kernel
theorem d_Mo_implement_20 : decode prog_14_method_9_code 20 = .ok (.iload_n 1, 1) := by decide +kernel
theorem d_Mo_implement_21 : decode prog_14_method_9_code 21 = .ok (.invokevirtual 73, 3) := by decide +kernel
theorem d_Mo_implement_24 : decode prog_14_method_9_code 24 = .ok (.aload_n 0, 1) := by decide +kernel
theorem d_Mo_implement_25 : decode prog_14_method_9_code 25 = .ok (.iconst 0, 1) := by decide +kernel
theorem d_Mo_implement_26 : decode prog_14_method_9_code 26 = .ok (.iconst 5, 1) := by decide +kernel
theorem d_Mo_implement_27 : decode prog_14_method_9_code 27 = .ok (.iload_n 2, 1) := by decide +kernel
theorem d_Mo_implement_28 : decode prog_14_method_9_code 28 = .ok (.iconst 1, 1) := by decide +kernel
theorem d_Mo_implement_29 : decode prog_14_method_9_code 29 = .ok (.iadd, 1) := by decide +kernel
theorem d_Mo_implement_30 : decode prog_14_method_9_code 30 = .ok (.invokevirtual 73, 3) := by decide +kernel
theorem d_Mo_implement_33 : decode prog_14_method_9_code 33 = .ok (.iconst 1, 1) := by decide +kernel
theorem d_Mo_implement_34 : decode prog_14_method_9_code 34 = .ok (.ireturn, 1) := by decide +kernel
theorem d_Mo_field_0 : decode prog_14_method_10_code 0 = .ok (.aload_n 0, 1) := by decide +kernel
theorem d_Mo_field_1 : decode prog_14_method_10_code 1 = .ok (.iconst 0, 1) := by decide +kernel
theorem d_Mo_field_2 : decode prog_14_method_10_code 2 = .ok (.bipush 9, 2) := by decide +kernel
theorem d_Mo_field_4 : decode prog_14_method_10_code 4 = .ok (.invokevirtual 69, 3) := by decide +kernel
theorem d_Mo_field_7 : decode prog_14_method_10_code 7 = .ok (.istore 4, 2) := by decide +kernel
theorem d_Mo_field_9 : decode prog_14_method_10_code 9 = .ok (.iload 4, 2) := by decide +kernel
theorem d_Mo_field_11 : decode prog_14_method_10_code 11 = .ok (.iconst 4, 1) := by decide +kernel
theorem d_Mo_field_12 : decode prog_14_method_10_code 12 = .ok (.if_icmp .ne 5, 3) := by decide +kernel
theorem d_Mo_field_15 : decode prog_14_method_10_code 15 = .ok (.iconst 0, 1) := by decide +kernel
theorem d_Mo_field_16 : decode prog_14_method_10_code 16 = .ok (.ireturn, 1) := by decide +kernel
theorem d_Mo_field_17 : decode prog_14_method_10_code 17 = .ok (.aload_n 0, 1) := by decide +kernel
theorem d_Mo_field_18 : decode prog_14_method_10_code 18 = .ok (.iconst 0, 1) := by decide +kernel
theorem d_Mo_field_19 : decode prog_14_method_10_code 19 = .ok (.bipush 10, 2) := by decide +kernel
theorem d_Mo_field_21 : decode prog_14_method_10_code 21 = .ok (.iconst 3, 1) := by decide +kernel
theorem d_Mo_field_22 : decode prog_14_method_10_code 22 = .ok (.iload 4, 2) := by decide +kernel
theorem d_Mo_field_24 : decode prog_14_method_10_code 24 = .ok (.imul, 1) := by decide +kernel
theorem d_Mo_field_25 : decode prog_14_method_10_code 25 = .ok (.iadd, 1) := by decide +kernel
theorem d_Mo_field_26 : decode prog_14_method_10_code 26 = .ok (.iload_n 1, 1) := by decide +kernel
theorem d_Mo_field_27 : decode prog_14_method_10_code 27 = .ok (.invokevirtual 73, 3) := by decide +kernel
theorem d_Mo_field_30 : decode prog_14_method_10_code 30 = .ok (.aload_n 0, 1) := by decide +kernel
theorem d_Mo_field_31 : decode prog_14_method_10_code 31 = .ok (.iconst 0, 1) := by decide +kernel
theorem d_Mo_field_32 : decode prog_14_method_10_code 32 = .ok (.bipush 11, 2) := by decide +kernel
theorem d_Mo_field_34 : decode prog_14_method_10_code 34 = .ok (.iconst 3, 1) := by decide +kernel
theorem d_Mo_field_35 : decode prog_14_method_10_code 35 = .ok (.iload 4, 2) := by decide +kernel
theorem d_Mo_field_37 : decode prog_14_method_10_code 37 = .ok (.imul, 1) := by decide +kernel
theorem d_Mo_field_38 : decode prog_14_method_10_code 38 = .ok (.iadd, 1) := by decide +kernel
theorem d_Mo_field_39 : decode prog_14_method_10_code 39 = .ok (.iload_n 2, 1) := by decide +kernel
theorem d_Mo_field_40 : decode prog_14_method_10_code 40 = .ok (.invokevirtual 73, 3) := by decide +kernel
theorem d_Mo_field_43 : decode prog_14_method_10_code 43 = .ok (.aload_n 0, 1) := by decide +kernel
theorem d_Mo_field_44 : decode prog_14_method_10_code 44 = .ok (.iconst 0, 1) := by decide +kernel
theorem d_Mo_field_45 : decode prog_14_method_10_code 45 = .ok (.bipush 12, 2) := by decide +kernel
theorem d_Mo_field_47 : decode prog_14_method_10_code 47 = .ok (.iconst 3, 1) := by decide +kernel
theorem d_Mo_field_48 : decode prog_14_method_10_code 48 = .ok (.iload 4, 2) := by decide +kernel
theorem d_Mo_field_50 : decode prog_14_method_10_code 50 = .ok (.imul, 1) := by decide +kernel
theorem d_Mo_field_51 : decode prog_14_method_10_code 51 = .ok (.iadd, 1) := by decide +kernel
theorem d_Mo_field_52 : decode prog_14_method_10_code 52 = .ok (.iload_n 3, 1) := by decide +kernel
theorem d_Mo_field_53 : decode prog_14_method_10_code 53 = .ok (.invokevirtual 73, 3) := by decide +kernel
theorem d_Mo_field_56 : decode prog_14_method_10_code 56 = .ok (.aload_n 0, 1) := by decide +kernel
theorem d_Mo_field_57 : decode prog_14_method_10_code 57 = .ok (.iconst 0, 1) := by decide +kernel
theorem d_Mo_field_58 : decode prog_14_method_10_code 58 = .ok (.bipush 9, 2) := by decide +kernel
theorem d_Mo_field_60 : decode prog_14_method_10_code 60 = .ok (.iload 4, 2) := by decide +kernel
theorem d_Mo_field_62 : decode prog_14_method_10_code 62 = .ok (.iconst 1, 1) := by decide +kernel
theorem d_Mo_field_63 : decode prog_14_method_10_code 63 = .ok (.iadd, 1) := by decide +kernel
theorem d_Mo_field_64 : decode prog_14_method_10_code 64 = .ok (.invokevirtual 73, 3) := by decide +kernel
theorem d_Mo_field_67 : decode prog_14_method_10_code 67 = .ok (.iconst 1, 1) := by decide +kernel
theorem d_Mo_field_68 : decode prog_14_method_10_code 68 = .ok (.ireturn, 1) := by decide +kernel
theorem d_Mo_methodAt_0 : decode prog_14_method_11_code 0 = .ok (.bipush 23, 2) := by decide +kernel
theorem d_Mo_methodAt_2 : decode prog_14_method_11_code 2 = .ok (.bipush 21, 2) := by decide +kernel
theorem d_Mo_methodAt_4 : decode prog_14_method_11_code 4 = .ok (.iload_n 0, 1) := by decide +kernel
theorem d_Mo_methodAt_5 : decode prog_14_method_11_code 5 = .ok (.imul, 1) := by decide +kernel
theorem d_Mo_methodAt_6 : decode prog_14_method_11_code 6 = .ok (.iadd, 1) := by decide +kernel
theorem d_Mo_methodAt_7 : decode prog_14_method_11_code 7 = .ok (.ireturn, 1) := by decide +kernel
theorem d_Mo_method_0 : decode prog_14_method_12_code 0 = .ok (.aload_n 0, 1) := by decide +kernel
theorem d_Mo_method_1 : decode prog_14_method_12_code 1 = .ok (.iconst 0, 1) := by decide +kernel
theorem d_Mo_method_2 : decode prog_14_method_12_code 2 = .ok (.bipush 22, 2) := by decide +kernel
theorem d_Mo_method_4 : decode prog_14_method_12_code 4 = .ok (.invokevirtual 69, 3) := by decide +kernel
theorem d_Mo_method_7 : decode prog_14_method_12_code 7 = .ok (.istore_n 3, 1) := by decide +kernel
theorem d_Mo_method_8 : decode prog_14_method_12_code 8 = .ok (.iload_n 3, 1) := by decide +kernel
theorem d_Mo_method_9 : decode prog_14_method_12_code 9 = .ok (.iconst 4, 1) := by decide +kernel
theorem d_Mo_method_10 : decode prog_14_method_12_code 10 = .ok (.if_icmp .ne 5, 3) := by decide +kernel
theorem d_Mo_method_13 : decode prog_14_method_12_code 13 = .ok (.iconst 0, 1) := by decide +kernel
theorem d_Mo_method_14 : decode prog_14_method_12_code 14 = .ok (.ireturn, 1) := by decide +kernel
theorem d_Mo_method_15 : decode prog_14_method_12_code 15 = .ok (.aload_n 0, 1) := by decide +kernel
theorem d_Mo_method_16 : decode prog_14_method_12_code 16 = .ok (.iconst 0, 1) := by decide +kernel
theorem d_Mo_method_17 : decode prog_14_method_12_code 17 = .ok (.iload_n 3, 1) := by decide +kernel
theorem d_Mo_method_18 : decode prog_14_method_12_code 18 = .ok (.invokestatic 85, 3) := by decide +kernel
theorem d_Mo_method_21 : decode prog_14_method_12_code 21 = .ok (.iload_n 1, 1) := by decide +kernel
theorem d_Mo_method_22 : decode prog_14_method_12_code 22 = .ok (.invokevirtual 73, 3) := by decide +kernel
theorem d_Mo_method_25 : decode prog_14_method_12_code 25 = .ok (.aload_n 0, 1) := by decide +kernel
theorem d_Mo_method_26 : decode prog_14_method_12_code 26 = .ok (.iconst 0, 1) := by decide +kernel
theorem d_Mo_method_27 : decode prog_14_method_12_code 27 = .ok (.iload_n 3, 1) := by decide +kernel
theorem d_Mo_method_28 : decode prog_14_method_12_code 28 = .ok (.invokestatic 85, 3) := by decide +kernel
theorem d_Mo_method_31 : decode prog_14_method_12_code 31 = .ok (.iconst 1, 1) := by decide +kernel
theorem d_Mo_method_32 : decode prog_14_method_12_code 32 = .ok (.iadd, 1) := by decide +kernel
theorem d_Mo_method_33 : decode prog_14_method_12_code 33 = .ok (.iload_n 2, 1) := by decide +kernel
theorem d_Mo_method_34 : decode prog_14_method_12_code 34 = .ok (.invokevirtual 73, 3) := by decide +kernel
theorem d_Mo_method_37 : decode prog_14_method_12_code 37 = .ok (.aload_n 0, 1) := by decide +kernel
theorem d_Mo_method_38 : decode prog_14_method_12_code 38 = .ok (.iconst 0, 1) := by decide +kernel
theorem d_Mo_method_39 : decode prog_14_method_12_code 39 = .ok (.iload_n 3, 1) := by decide +kernel
theorem d_Mo_method_40 : decode prog_14_method_12_code 40 = .ok (.invokestatic 85, 3) := by decide +kernel
theorem d_Mo_method_43 : decode prog_14_method_12_code 43 = .ok (.iconst 2, 1) := by decide +kernel
theorem d_Mo_method_44 : decode prog_14_method_12_code 44 = .ok (.iadd, 1) := by decide +kernel
theorem d_Mo_method_45 : decode prog_14_method_12_code 45 = .ok (.iconst 0, 1) := by decide +kernel
theorem d_Mo_method_46 : decode prog_14_method_12_code 46 = .ok (.invokevirtual 73, 3) := by decide +kernel
theorem d_Mo_method_49 : decode prog_14_method_12_code 49 = .ok (.aload_n 0, 1) := by decide +kernel
theorem d_Mo_method_50 : decode prog_14_method_12_code 50 = .ok (.iconst 0, 1) := by decide +kernel
theorem d_Mo_method_51 : decode prog_14_method_12_code 51 = .ok (.bipush 22, 2) := by decide +kernel
theorem d_Mo_method_53 : decode prog_14_method_12_code 53 = .ok (.iload_n 3, 1) := by decide +kernel
theorem d_Mo_method_54 : decode prog_14_method_12_code 54 = .ok (.iconst 1, 1) := by decide +kernel
theorem d_Mo_method_55 : decode prog_14_method_12_code 55 = .ok (.iadd, 1) := by decide +kernel
theorem d_Mo_method_56 : decode prog_14_method_12_code 56 = .ok (.invokevirtual 73, 3) := by decide +kernel
theorem d_Mo_method_59 : decode prog_14_method_12_code 59 = .ok (.aload_n 0, 1) := by decide +kernel
theorem d_Mo_method_60 : decode prog_14_method_12_code 60 = .ok (.iload_n 3, 1) := by decide +kernel
theorem d_Mo_method_61 : decode prog_14_method_12_code 61 = .ok (.putfield 13, 3) := by decide +kernel
theorem d_Mo_method_64 : decode prog_14_method_12_code 64 = .ok (.iconst 1, 1) := by decide +kernel
theorem d_Mo_method_65 : decode prog_14_method_12_code 65 = .ok (.ireturn, 1) := by decide +kernel
theorem d_Mo_choose_0 : decode prog_14_method_13_code 0 = .ok (.iload_n 1, 1) := by decide +kernel
theorem d_Mo_choose_1 : decode prog_14_method_13_code 1 = .ok (.ifCond .lt 14, 3) := by decide +kernel
theorem d_Mo_choose_4 : decode prog_14_method_13_code 4 = .ok (.iload_n 1, 1) := by decide +kernel
theorem d_Mo_choose_5 : decode prog_14_method_13_code 5 = .ok (.aload_n 0, 1) := by decide +kernel
theorem d_Mo_choose_6 : decode prog_14_method_13_code 6 = .ok (.iconst 0, 1) := by decide +kernel
theorem d_Mo_choose_7 : decode prog_14_method_13_code 7 = .ok (.bipush 22, 2) := by decide +kernel
theorem d_Mo_choose_9 : decode prog_14_method_13_code 9 = .ok (.invokevirtual 69, 3) := by decide +kernel
theorem d_Mo_choose_12 : decode prog_14_method_13_code 12 = .ok (.if_icmp .lt 5, 3) := by decide +kernel
theorem d_Mo_choose_15 : decode prog_14_method_13_code 15 = .ok (.iconst 0, 1) := by decide +kernel
theorem d_Mo_choose_16 : decode prog_14_method_13_code 16 = .ok (.ireturn, 1) := by decide +kernel
theorem d_Mo_choose_17 : decode prog_14_method_13_code 17 = .ok (.aload_n 0, 1) := by decide +kernel
theorem d_Mo_choose_18 : decode prog_14_method_13_code 18 = .ok (.iload_n 1, 1) := by decide +kernel
theorem d_Mo_choose_19 : decode prog_14_method_13_code 19 = .ok (.putfield 13, 3) := by decide +kernel
theorem d_Mo_choose_22 : decode prog_14_method_13_code 22 = .ok (.aload_n 0, 1) := by decide +kernel
theorem d_Mo_choose_23 : decode prog_14_method_13_code 23 = .ok (.iconst 0, 1) := by decide +kernel
theorem d_Mo_choose_24 : decode prog_14_method_13_code 24 = .ok (.iload_n 1, 1) := by decide +kernel
theorem d_Mo_choose_25 : decode prog_14_method_13_code 25 = .ok (.invokestatic 85, 3) := by decide +kernel
theorem d_Mo_choose_28 : decode prog_14_method_13_code 28 = .ok (.iconst 2, 1) := by decide +kernel
theorem d_Mo_choose_29 : decode prog_14_method_13_code 29 = .ok (.iadd, 1) := by decide +kernel
theorem d_Mo_choose_30 : decode prog_14_method_13_code 30 = .ok (.iconst 0, 1) := by decide +kernel
theorem d_Mo_choose_31 : decode prog_14_method_13_code 31 = .ok (.invokevirtual 73, 3) := by decide +kernel
theorem d_Mo_choose_34 : decode prog_14_method_13_code 34 = .ok (.iconst 1, 1) := by decide +kernel
theorem d_Mo_choose_35 : decode prog_14_method_13_code 35 = .ok (.ireturn, 1) := by decide +kernel
theorem d_Mo_code_0 : decode prog_14_method_14_code 0 = .ok (.aload_n 0, 1) := by decide +kernel
theorem d_Mo_code_1 : decode prog_14_method_14_code 1 = .ok (.getfield 13, 3) := by decide +kernel
theorem d_Mo_code_4 : decode prog_14_method_14_code 4 = .ok (.iconst (-1), 1) := by decide +kernel
theorem d_Mo_code_5 : decode prog_14_method_14_code 5 = .ok (.if_icmp .ne 5, 3) := by decide +kernel
theorem d_Mo_code_8 : decode prog_14_method_14_code 8 = .ok (.iconst 0, 1) := by decide +kernel
theorem d_Mo_code_9 : decode prog_14_method_14_code 9 = .ok (.ireturn, 1) := by decide +kernel
theorem d_Mo_code_10 : decode prog_14_method_14_code 10 = .ok (.aload_n 0, 1) := by decide +kernel
theorem d_Mo_code_11 : decode prog_14_method_14_code 11 = .ok (.getfield 13, 3) := by decide +kernel
theorem d_Mo_code_14 : decode prog_14_method_14_code 14 = .ok (.invokestatic 85, 3) := by decide +kernel
theorem d_Mo_code_17 : decode prog_14_method_14_code 17 = .ok (.iconst 2, 1) := by decide +kernel
theorem d_Mo_code_18 : decode prog_14_method_14_code 18 = .ok (.iadd, 1) := by decide +kernel
theorem d_Mo_code_19 : decode prog_14_method_14_code 19 = .ok (.istore 4, 2) := by decide +kernel
theorem d_Mo_code_21 : decode prog_14_method_14_code 21 = .ok (.aload_n 0, 1) := by decide +kernel
theorem d_Mo_code_22 : decode prog_14_method_14_code 22 = .ok (.iconst 0, 1) := by decide +kernel
theorem d_Mo_code_23 : decode prog_14_method_14_code 23 = .ok (.iload 4, 2) := by decide +kernel
theorem d_Mo_code_25 : decode prog_14_method_14_code 25 = .ok (.invokevirtual 69, 3) := by decide +kernel
theorem d_Mo_code_28 : decode prog_14_method_14_code 28 = .ok (.istore 5, 2) := by decide +kernel
theorem d_Mo_code_30 : decode prog_14_method_14_code 30 = .ok (.iload 5, 2) := by decide +kernel
theorem d_Mo_code_32 : decode prog_14_method_14_code 32 = .ok (.bipush 6, 2) := by decide +kernel
theorem d_Mo_code_34 : decode prog_14_method_14_code 34 = .ok (.if_icmp .ne 5, 3) := by decide +kernel
theorem d_Mo_code_37 : decode prog_14_method_14_code 37 = .ok (.iconst 0, 1) := by decide +kernel
theorem d_Mo_code_38 : decode prog_14_method_14_code 38 = .ok (.ireturn, 1) := by decide +kernel
theorem d_Mo_code_39 : decode prog_14_method_14_code 39 = .ok (.aload_n 0, 1) := by decide +kernel
theorem d_Mo_code_40 : decode prog_14_method_14_code 40 = .ok (.iconst 0, 1) := by decide +kernel
theorem d_Mo_code_41 : decode prog_14_method_14_code 41 = .ok (.iload 4, 2) := by decide +kernel
theorem d_Mo_code_43 : decode prog_14_method_14_code 43 = .ok (.iconst 1, 1) := by decide +kernel
theorem d_Mo_code_44 : decode prog_14_method_14_code 44 = .ok (.iadd, 1) := by decide +kernel
theorem d_Mo_code_45 : decode prog_14_method_14_code 45 = .ok (.iconst 3, 1) := by decide +kernel
theorem d_Mo_code_46 : decode prog_14_method_14_code 46 = .ok (.iload 5, 2) := by decide +kernel
theorem d_Mo_code_48 : decode prog_14_method_14_code 48 = .ok (.imul, 1) := by decide +kernel
theorem d_Mo_code_49 : decode prog_14_method_14_code 49 = .ok (.iadd, 1) := by decide +kernel
theorem d_Mo_code_50 : decode prog_14_method_14_code 50 = .ok (.iload_n 1, 1) := by decide +kernel
theorem d_Mo_code_51 : decode prog_14_method_14_code 51 = .ok (.invokevirtual 73, 3) := by decide +kernel
theorem d_Mo_code_54 : decode prog_14_method_14_code 54 = .ok (.aload_n 0, 1) := by decide +kernel
theorem d_Mo_code_55 : decode prog_14_method_14_code 55 = .ok (.iconst 0, 1) := by decide +kernel
theorem d_Mo_code_56 : decode prog_14_method_14_code 56 = .ok (.iload 4, 2) := by decide +kernel
theorem d_Mo_code_58 : decode prog_14_method_14_code 58 = .ok (.iconst 2, 1) := by decide +kernel
theorem d_Mo_code_59 : decode prog_14_method_14_code 59 = .ok (.iadd, 1) := by decide +kernel
theorem d_Mo_code_60 : decode prog_14_method_14_code 60 = .ok (.iconst 3, 1) := by decide +kernel
theorem d_Mo_code_61 : decode prog_14_method_14_code 61 = .ok (.iload 5, 2) := by decide +kernel
theorem d_Mo_code_63 : decode prog_14_method_14_code 63 = .ok (.imul, 1) := by decide +kernel
theorem d_Mo_code_64 : decode prog_14_method_14_code 64 = .ok (.iadd, 1) := by decide +kernel
theorem d_Mo_code_65 : decode prog_14_method_14_code 65 = .ok (.iload_n 2, 1) := by decide +kernel
theorem d_Mo_code_66 : decode prog_14_method_14_code 66 = .ok (.invokevirtual 73, 3) := by decide +kernel
theorem d_Mo_code_69 : decode prog_14_method_14_code 69 = .ok (.aload_n 0, 1) := by decide +kernel
theorem d_Mo_code_70 : decode prog_14_method_14_code 70 = .ok (.iconst 0, 1) := by decide +kernel
theorem d_Mo_code_71 : decode prog_14_method_14_code 71 = .ok (.iload 4, 2) := by decide +kernel
theorem d_Mo_code_73 : decode prog_14_method_14_code 73 = .ok (.iconst 3, 1) := by decide +kernel
theorem d_Mo_code_74 : decode prog_14_method_14_code 74 = .ok (.iadd, 1) := by decide +kernel
theorem d_Mo_code_75 : decode prog_14_method_14_code 75 = .ok (.iconst 3, 1) := by decide +kernel
theorem d_Mo_code_76 : decode prog_14_method_14_code 76 = .ok (.iload 5, 2) := by decide +kernel
theorem d_Mo_code_78 : decode prog_14_method_14_code 78 = .ok (.imul, 1) := by decide +kernel
theorem d_Mo_code_79 : decode prog_14_method_14_code 79 = .ok (.iadd, 1) := by decide +kernel
theorem d_Mo_code_80 : decode prog_14_method_14_code 80 = .ok (.iload_n 3, 1) := by decide +kernel
theorem d_Mo_code_81 : decode prog_14_method_14_code 81 = .ok (.invokevirtual 73, 3) := by decide +kernel
theorem d_Mo_code_84 : decode prog_14_method_14_code 84 = .ok (.aload_n 0, 1) := by decide +kernel
theorem d_Mo_code_85 : decode prog_14_method_14_code 85 = .ok (.iconst 0, 1) := by decide +kernel
theorem d_Mo_code_86 : decode prog_14_method_14_code 86 = .ok (.iload 4, 2) := by decide +kernel
theorem d_Mo_code_88 : decode prog_14_method_14_code 88 = .ok (.iload 5, 2) := by decide +kernel
theorem d_Mo_code_90 : decode prog_14_method_14_code 90 = .ok (.iconst 1, 1) := by decide +kernel
theorem d_Mo_code_91 : decode prog_14_method_14_code 91 = .ok (.iadd, 1) := by decide +kernel
theorem d_Mo_code_92 : decode prog_14_method_14_code 92 = .ok (.invokevirtual 73, 3) := by decide +kernel
theorem d_Mo_code_95 : decode prog_14_method_14_code 95 = .ok (.iconst 1, 1) := by decide +kernel
theorem d_Mo_code_96 : decode prog_14_method_14_code 96 = .ok (.ireturn, 1) := by decide +kernel
theorem d_Mo_transformer_0 : decode prog_14_method_15_code 0 = .ok (.iconst 0, 1) := by decide +kernel
theorem d_Mo_transformer_1 : decode prog_14_method_15_code 1 = .ok (.istore 5, 2) := by decide +kernel
theorem d_Mo_transformer_3 : decode prog_14_method_15_code 3 = .ok (.iload 5, 2) := by decide +kernel
theorem d_Mo_transformer_5 : decode prog_14_method_15_code 5 = .ok (.iconst 5, 1) := by decide +kernel
theorem d_Mo_transformer_6 : decode prog_14_method_15_code 6 = .ok (.if_icmp .ge 19, 3) := by decide +kernel
theorem d_Mo_transformer_9 : decode prog_14_method_15_code 9 = .ok (.aload_n 0, 1) := by decide +kernel
theorem d_Mo_transformer_10 : decode prog_14_method_15_code 10 = .ok (.getfield 29, 3) := by decide +kernel
theorem d_Mo_transformer_13 : decode prog_14_method_15_code 13 = .ok (.iload 5, 2) := by decide +kernel
theorem d_Mo_transformer_15 : decode prog_14_method_15_code 15 = .ok (.baload, 1) := by decide +kernel
theorem d_Mo_transformer_16 : decode prog_14_method_15_code 16 = .ok (.ifCond .eq 9, 3) := by decide +kernel
theorem d_Mo_transformer_19 : decode prog_14_method_15_code 19 = .ok (.iinc 5 1, 3) := by decide +kernel
theorem d_Mo_transformer_22 : decode prog_14_method_15_code 22 = .ok (.goto (-19), 3) := by decide +kernel
theorem d_Mo_transformer_25 : decode prog_14_method_15_code 25 = .ok (.iload 5, 2) := by decide +kernel
theorem d_Mo_transformer_27 : decode prog_14_method_15_code 27 = .ok (.iconst 5, 1) := by decide +kernel
theorem d_Mo_transformer_28 : decode prog_14_method_15_code 28 = .ok (.if_icmp .eq 12, 3) := by decide +kernel
theorem d_Mo_transformer_31 : decode prog_14_method_15_code 31 = .ok (.iload_n 1, 1) := by decide +kernel
theorem d_Mo_transformer_32 : decode prog_14_method_15_code 32 = .ok (.ifCond .lt 8, 3) := by decide +kernel
theorem d_Mo_transformer_35 : decode prog_14_method_15_code 35 = .ok (.iload_n 1, 1) := by decide +kernel
theorem d_Mo_transformer_36 : decode prog_14_method_15_code 36 = .ok (.iconst 4, 1) := by decide +kernel
theorem d_Mo_transformer_37 : decode prog_14_method_15_code 37 = .ok (.if_icmp .le 5, 3) := by decide +kernel
theorem d_Mo_transformer_40 : decode prog_14_method_15_code 40 = .ok (.iconst (-1), 1) := by decide +kernel
theorem d_Mo_transformer_41 : decode prog_14_method_15_code 41 = .ok (.ireturn, 1) := by decide +kernel
theorem d_Mo_transformer_42 : decode prog_14_method_15_code 42 = .ok (.aload_n 0, 1) := by decide +kernel
theorem d_Mo_transformer_43 : decode prog_14_method_15_code 43 = .ok (.getfield 29, 3) := by decide +kernel
theorem d_Mo_transformer_46 : decode prog_14_method_15_code 46 = .ok (.iload 5, 2) := by decide +kernel
theorem d_Mo_transformer_48 : decode prog_14_method_15_code 48 = .ok (.iconst 1, 1) := by decide +kernel
theorem d_Mo_transformer_49 : decode prog_14_method_15_code 49 = .ok (.bastore, 1) := by decide +kernel
theorem d_Mo_transformer_50 : decode prog_14_method_15_code 50 = .ok (.aload_n 0, 1) := by decide +kernel
theorem d_Mo_transformer_51 : decode prog_14_method_15_code 51 = .ok (.getfield 33, 3) := by decide +kernel
theorem d_Mo_transformer_54 : decode prog_14_method_15_code 54 = .ok (.iload 5, 2) := by decide +kernel
theorem d_Mo_transformer_56 : decode prog_14_method_15_code 56 = .ok (.iload_n 1, 1) := by decide +kernel
theorem d_Mo_transformer_57 : decode prog_14_method_15_code 57 = .ok (.iastore, 1) := by decide +kernel
theorem d_Mo_transformer_58 : decode prog_14_method_15_code 58 = .ok (.aload_n 0, 1) := by decide +kernel
theorem d_Mo_transformer_59 : decode prog_14_method_15_code 59 = .ok (.getfield 36, 3) := by decide +kernel
theorem d_Mo_transformer_62 : decode prog_14_method_15_code 62 = .ok (.iload 5, 2) := by decide +kernel
theorem d_Mo_transformer_64 : decode prog_14_method_15_code 64 = .ok (.iload_n 2, 1) := by decide +kernel
theorem d_Mo_transformer_65 : decode prog_14_method_15_code 65 = .ok (.iastore, 1) := by decide +kernel
theorem d_Mo_transformer_66 : decode prog_14_method_15_code 66 = .ok (.aload_n 0, 1) := by decide +kernel
theorem d_Mo_transformer_67 : decode prog_14_method_15_code 67 = .ok (.getfield 39, 3) := by decide +kernel
theorem d_Mo_transformer_70 : decode prog_14_method_15_code 70 = .ok (.iload 5, 2) := by decide +kernel
theorem d_Mo_transformer_72 : decode prog_14_method_15_code 72 = .ok (.iload_n 3, 1) := by decide +kernel
theorem d_Mo_transformer_73 : decode prog_14_method_15_code 73 = .ok (.ifCond .lt 8, 3) := by decide +kernel
theorem d_Mo_transformer_76 : decode prog_14_method_15_code 76 = .ok (.iload_n 3, 1) := by decide +kernel
theorem d_Mo_transformer_77 : decode prog_14_method_15_code 77 = .ok (.iconst 5, 1) := by decide +kernel
theorem d_Mo_transformer_78 : decode prog_14_method_15_code 78 = .ok (.if_icmp .le 7, 3) := by decide +kernel
theorem d_Mo_transformer_81 : decode prog_14_method_15_code 81 = .ok (.iconst (-1), 1) := by decide +kernel
theorem d_Mo_transformer_82 : decode prog_14_method_15_code 82 = .ok (.goto 4, 3) := by decide +kernel
theorem d_Mo_transformer_85 : decode prog_14_method_15_code 85 = .ok (.iload_n 3, 1) := by decide +kernel
theorem d_Mo_transformer_86 : decode prog_14_method_15_code 86 = .ok (.iastore, 1) := by decide +kernel
theorem d_Mo_transformer_87 : decode prog_14_method_15_code 87 = .ok (.aload_n 0, 1) := by decide +kernel
theorem d_Mo_transformer_88 : decode prog_14_method_15_code 88 = .ok (.getfield 42, 3) := by decide +kernel
theorem d_Mo_transformer_91 : decode prog_14_method_15_code 91 = .ok (.iload 5, 2) := by decide +kernel
theorem d_Mo_transformer_93 : decode prog_14_method_15_code 93 = .ok (.iload 4, 2) := by decide +kernel
theorem d_Mo_transformer_95 : decode prog_14_method_15_code 95 = .ok (.bastore, 1) := by decide +kernel
theorem d_Mo_transformer_96 : decode prog_14_method_15_code 96 = .ok (.iload 5, 2) := by decide +kernel
theorem d_Mo_transformer_98 : decode prog_14_method_15_code 98 = .ok (.ireturn, 1) := by decide +kernel
theorem d_Mo_remove_0 : decode prog_14_method_16_code 0 = .ok (.iload_n 1, 1) := by decide +kernel
theorem d_Mo_remove_1 : decode prog_14_method_16_code 1 = .ok (.ifCond .lt 17, 3) := by decide +kernel
theorem d_Mo_remove_4 : decode prog_14_method_16_code 4 = .ok (.iload_n 1, 1) := by decide +kernel
theorem d_Mo_remove_5 : decode prog_14_method_16_code 5 = .ok (.iconst 4, 1) := by decide +kernel
theorem d_Mo_remove_6 : decode prog_14_method_16_code 6 = .ok (.if_icmp .gt 12, 3) := by decide +kernel
theorem d_Mo_remove_9 : decode prog_14_method_16_code 9 = .ok (.aload_n 0, 1) := by decide +kernel
theorem d_Mo_remove_10 : decode prog_14_method_16_code 10 = .ok (.getfield 29, 3) := by decide +kernel
theorem d_Mo_remove_13 : decode prog_14_method_16_code 13 = .ok (.iload_n 1, 1) := by decide +kernel
theorem d_Mo_remove_14 : decode prog_14_method_16_code 14 = .ok (.baload, 1) := by decide +kernel
theorem d_Mo_remove_15 : decode prog_14_method_16_code 15 = .ok (.ifCond .ne 5, 3) := by decide +kernel
theorem d_Mo_remove_18 : decode prog_14_method_16_code 18 = .ok (.iconst 0, 1) := by decide +kernel
theorem d_Mo_remove_19 : decode prog_14_method_16_code 19 = .ok (.ireturn, 1) := by decide +kernel
theorem d_Mo_remove_20 : decode prog_14_method_16_code 20 = .ok (.aload_n 0, 1) := by decide +kernel
theorem d_Mo_remove_21 : decode prog_14_method_16_code 21 = .ok (.getfield 29, 3) := by decide +kernel
theorem d_Mo_remove_24 : decode prog_14_method_16_code 24 = .ok (.iload_n 1, 1) := by decide +kernel
theorem d_Mo_remove_25 : decode prog_14_method_16_code 25 = .ok (.iconst 0, 1) := by decide +kernel
theorem d_Mo_remove_26 : decode prog_14_method_16_code 26 = .ok (.bastore, 1) := by decide +kernel
theorem d_Mo_remove_27 : decode prog_14_method_16_code 27 = .ok (.iconst 1, 1) := by decide +kernel
theorem d_Mo_remove_28 : decode prog_14_method_16_code 28 = .ok (.ireturn, 1) := by decide +kernel
theorem d_Mo_find_0 : decode prog_14_method_17_code 0 = .ok (.iconst 0, 1) := by decide +kernel
theorem d_Mo_find_1 : decode prog_14_method_17_code 1 = .ok (.istore_n 3, 1) := by decide +kernel
theorem d_Mo_find_2 : decode prog_14_method_17_code 2 = .ok (.iload_n 3, 1) := by decide +kernel
theorem d_Mo_find_3 : decode prog_14_method_17_code 3 = .ok (.aload_n 0, 1) := by decide +kernel
theorem d_Mo_find_4 : decode prog_14_method_17_code 4 = .ok (.iload_n 1, 1) := by decide +kernel
theorem d_Mo_find_5 : decode prog_14_method_17_code 5 = .ok (.bipush 22, 2) := by decide +kernel
theorem d_Mo_find_7 : decode prog_14_method_17_code 7 = .ok (.invokevirtual 69, 3) := by decide +kernel
theorem d_Mo_find_10 : decode prog_14_method_17_code 10 = .ok (.if_icmp .ge 27, 3) := by decide +kernel
theorem d_Mo_find_13 : decode prog_14_method_17_code 13 = .ok (.aload_n 0, 1) := by decide +kernel
theorem d_Mo_find_14 : decode prog_14_method_17_code 14 = .ok (.iload_n 1, 1) := by decide +kernel
theorem d_Mo_find_15 : decode prog_14_method_17_code 15 = .ok (.iload_n 3, 1) := by decide +kernel
theorem d_Mo_find_16 : decode prog_14_method_17_code 16 = .ok (.invokestatic 85, 3) := by decide +kernel
theorem d_Mo_find_19 : decode prog_14_method_17_code 19 = .ok (.invokevirtual 69, 3) := by decide +kernel
theorem d_Mo_find_22 : decode prog_14_method_17_code 22 = .ok (.iload_n 2, 1) := by decide +kernel
theorem d_Mo_find_23 : decode prog_14_method_17_code 23 = .ok (.if_icmp .ne 8, 3) := by decide +kernel
theorem d_Mo_find_26 : decode prog_14_method_17_code 26 = .ok (.iload_n 3, 1) := by decide +kernel
theorem d_Mo_find_27 : decode prog_14_method_17_code 27 = .ok (.invokestatic 85, 3) := by decide +kernel
theorem d_Mo_find_30 : decode prog_14_method_17_code 30 = .ok (.ireturn, 1) := by decide +kernel
theorem d_Mo_find_31 : decode prog_14_method_17_code 31 = .ok (.iinc 3 1, 3) := by decide +kernel
theorem d_Mo_find_34 : decode prog_14_method_17_code 34 = .ok (.goto (-32), 3) := by decide +kernel
theorem d_Mo_find_37 : decode prog_14_method_17_code 37 = .ok (.iconst (-1), 1) := by decide +kernel
theorem d_Mo_find_38 : decode prog_14_method_17_code 38 = .ok (.ireturn, 1) := by decide +kernel
theorem d_Mo_change_0 : decode prog_14_method_18_code 0 = .ok (.aload_n 0, 1) := by decide +kernel
theorem d_Mo_change_1 : decode prog_14_method_18_code 1 = .ok (.iload_n 1, 1) := by decide +kernel
theorem d_Mo_change_2 : decode prog_14_method_18_code 2 = .ok (.bipush 22, 2) := by decide +kernel
theorem d_Mo_change_4 : decode prog_14_method_18_code 4 = .ok (.invokevirtual 69, 3) := by decide +kernel
theorem d_Mo_change_7 : decode prog_14_method_18_code 7 = .ok (.istore_n 3, 1) := by decide +kernel
theorem d_Mo_change_8 : decode prog_14_method_18_code 8 = .ok (.aload_n 0, 1) := by decide +kernel
theorem d_Mo_change_9 : decode prog_14_method_18_code 9 = .ok (.getfield 33, 3) := by decide +kernel
theorem d_Mo_change_12 : decode prog_14_method_18_code 12 = .ok (.iload_n 2, 1) := by decide +kernel
theorem d_Mo_change_13 : decode prog_14_method_18_code 13 = .ok (.iaload, 1) := by decide +kernel
theorem d_Mo_change_14 : decode prog_14_method_18_code 14 = .ok (.iconst 2, 1) := by decide +kernel
theorem d_Mo_change_15 : decode prog_14_method_18_code 15 = .ok (.if_icmp .ne 15, 3) := by decide +kernel
theorem d_Mo_change_18 : decode prog_14_method_18_code 18 = .ok (.aload_n 0, 1) := by decide +kernel
theorem d_Mo_change_19 : decode prog_14_method_18_code 19 = .ok (.iload_n 1, 1) := by decide +kernel
theorem d_Mo_change_20 : decode prog_14_method_18_code 20 = .ok (.iconst 3, 1) := by decide +kernel
theorem d_Mo_change_21 : decode prog_14_method_18_code 21 = .ok (.aload_n 0, 1) := by decide +kernel
theorem d_Mo_change_22 : decode prog_14_method_18_code 22 = .ok (.getfield 36, 3) := by decide +kernel
theorem d_Mo_change_25 : decode prog_14_method_18_code 25 = .ok (.iload_n 2, 1) := by decide +kernel
theorem d_Mo_change_26 : decode prog_14_method_18_code 26 = .ok (.iaload, 1) := by decide +kernel
theorem d_Mo_change_27 : decode prog_14_method_18_code 27 = .ok (.invokevirtual 73, 3) := by decide +kernel
theorem d_Mo_change_30 : decode prog_14_method_18_code 30 = .ok (.aload_n 0, 1) := by decide +kernel
theorem d_Mo_change_31 : decode prog_14_method_18_code 31 = .ok (.getfield 33, 3) := by decide +kernel
theorem d_Mo_change_34 : decode prog_14_method_18_code 34 = .ok (.iload_n 2, 1) := by decide +kernel
theorem d_Mo_change_35 : decode prog_14_method_18_code 35 = .ok (.iaload, 1) := by decide +kernel
theorem d_Mo_change_36 : decode prog_14_method_18_code 36 = .ok (.iconst 4, 1) := by decide +kernel
theorem d_Mo_change_37 : decode prog_14_method_18_code 37 = .ok (.if_icmp .ne 20, 3) := by decide +kernel
theorem d_Mo_change_40 : decode prog_14_method_18_code 40 = .ok (.iload_n 3, 1) := by decide +kernel
theorem d_Mo_change_41 : decode prog_14_method_18_code 41 = .ok (.ifCond .le 16, 3) := by decide +kernel
theorem d_Mo_change_44 : decode prog_14_method_18_code 44 = .ok (.aload_n 0, 1) := by decide +kernel
theorem d_Mo_change_45 : decode prog_14_method_18_code 45 = .ok (.iload_n 1, 1) := by decide +kernel
theorem d_Mo_change_46 : decode prog_14_method_18_code 46 = .ok (.bipush 23, 2) := by decide +kernel
theorem d_Mo_change_48 : decode prog_14_method_18_code 48 = .ok (.aload_n 0, 1) := by decide +kernel
theorem d_Mo_change_49 : decode prog_14_method_18_code 49 = .ok (.getfield 36, 3) := by decide +kernel
theorem d_Mo_change_52 : decode prog_14_method_18_code 52 = .ok (.iload_n 2, 1) := by decide +kernel
theorem d_Mo_change_53 : decode prog_14_method_18_code 53 = .ok (.iaload, 1) := by decide +kernel
theorem d_Mo_change_54 : decode prog_14_method_18_code 54 = .ok (.invokevirtual 73, 3) := by decide +kernel
theorem d_Mo_change_57 : decode prog_14_method_18_code 57 = .ok (.aload_n 0, 1) := by decide +kernel
theorem d_Mo_change_58 : decode prog_14_method_18_code 58 = .ok (.iload_n 1, 1) := by decide +kernel
theorem d_Mo_change_59 : decode prog_14_method_18_code 59 = .ok (.aload_n 0, 1) := by decide +kernel
theorem d_Mo_change_60 : decode prog_14_method_18_code 60 = .ok (.getfield 36, 3) := by decide +kernel
theorem d_Mo_change_63 : decode prog_14_method_18_code 63 = .ok (.iload_n 2, 1) := by decide +kernel
theorem d_Mo_change_64 : decode prog_14_method_18_code 64 = .ok (.iaload, 1) := by decide +kernel
theorem d_Mo_change_65 : decode prog_14_method_18_code 65 = .ok (.invokevirtual 89, 3) := by decide +kernel
theorem d_Mo_change_68 : decode prog_14_method_18_code 68 = .ok (.iconst (-1), 1) := by decide +kernel
theorem d_Mo_change_69 : decode prog_14_method_18_code 69 = .ok (.if_icmp .eq 7, 3) := by decide +kernel
theorem d_Mo_change_72 : decode prog_14_method_18_code 72 = .ok (.iconst 1, 1) := by decide +kernel
theorem d_Mo_change_73 : decode prog_14_method_18_code 73 = .ok (.goto 4, 3) := by decide +kernel
theorem d_Mo_change_76 : decode prog_14_method_18_code 76 = .ok (.iconst 0, 1) := by decide +kernel
theorem d_Mo_change_77 : decode prog_14_method_18_code 77 = .ok (.istore 4, 2) := by decide +kernel
theorem d_Mo_change_79 : decode prog_14_method_18_code 79 = .ok (.iconst 0, 1) := by decide +kernel
theorem d_Mo_change_80 : decode prog_14_method_18_code 80 = .ok (.istore 5, 2) := by decide +kernel
theorem d_Mo_change_82 : decode prog_14_method_18_code 82 = .ok (.iload 5, 2) := by decide +kernel
theorem d_Mo_change_84 : decode prog_14_method_18_code 84 = .ok (.iload_n 3, 1) := by decide +kernel
theorem d_Mo_change_85 : decode prog_14_method_18_code 85 = .ok (.if_icmp .ge 124, 3) := by decide +kernel
theorem d_Mo_change_88 : decode prog_14_method_18_code 88 = .ok (.iload 5, 2) := by decide +kernel
theorem d_Mo_change_90 : decode prog_14_method_18_code 90 = .ok (.invokestatic 85, 3) := by decide +kernel
theorem d_Mo_change_93 : decode prog_14_method_18_code 93 = .ok (.iconst 2, 1) := by decide +kernel
theorem d_Mo_change_94 : decode prog_14_method_18_code 94 = .ok (.iadd, 1) := by decide +kernel
theorem d_Mo_change_95 : decode prog_14_method_18_code 95 = .ok (.istore 6, 2) := by decide +kernel
theorem d_Mo_change_97 : decode prog_14_method_18_code 97 = .ok (.aload_n 0, 1) := by decide +kernel
theorem d_Mo_change_98 : decode prog_14_method_18_code 98 = .ok (.getfield 33, 3) := by decide +kernel
theorem d_Mo_change_101 : decode prog_14_method_18_code 101 = .ok (.iload_n 2, 1) := by decide +kernel
theorem d_Mo_change_102 : decode prog_14_method_18_code 102 = .ok (.iaload, 1) := by decide +kernel
theorem d_Mo_change_103 : decode prog_14_method_18_code 103 = .ok (.iconst 3, 1) := by decide +kernel
theorem d_Mo_change_104 : decode prog_14_method_18_code 104 = .ok (.if_icmp .ne 16, 3) := by decide +kernel
theorem d_Mo_change_107 : decode prog_14_method_18_code 107 = .ok (.iload 4, 2) := by decide +kernel
theorem d_Mo_change_109 : decode prog_14_method_18_code 109 = .ok (.ifCond .eq 11, 3) := by decide +kernel
theorem d_Mo_change_112 : decode prog_14_method_18_code 112 = .ok (.aload_n 0, 1) := by decide +kernel
theorem d_Mo_change_113 : decode prog_14_method_18_code 113 = .ok (.iload_n 1, 1) := by decide +kernel
theorem d_Mo_change_114 : decode prog_14_method_18_code 114 = .ok (.iload 6, 2) := by decide +kernel
theorem d_Mo_change_116 : decode prog_14_method_18_code 116 = .ok (.iconst 0, 1) := by decide +kernel
theorem d_Mo_change_117 : decode prog_14_method_18_code 117 = .ok (.invokevirtual 73, 3) := by decide +kernel
theorem d_Mo_change_120 : decode prog_14_method_18_code 120 = .ok (.iconst 0, 1) := by decide +kernel
theorem d_Mo_change_121 : decode prog_14_method_18_code 121 = .ok (.istore 7, 2) := by decide +kernel
theorem d_Mo_change_123 : decode prog_14_method_18_code 123 = .ok (.iload 7, 2) := by decide +kernel
theorem d_Mo_change_125 : decode prog_14_method_18_code 125 = .ok (.aload_n 0, 1) := by decide +kernel
theorem d_Mo_change_126 : decode prog_14_method_18_code 126 = .ok (.iload_n 1, 1) := by decide +kernel
theorem d_Mo_change_127 : decode prog_14_method_18_code 127 = .ok (.iload 6, 2) := by decide +kernel
theorem d_Mo_change_129 : decode prog_14_method_18_code 129 = .ok (.invokevirtual 69, 3) := by decide +kernel
theorem d_Mo_change_132 : decode prog_14_method_18_code 132 = .ok (.if_icmp .ge 71, 3) := by decide +kernel
theorem d_Mo_change_135 : decode prog_14_method_18_code 135 = .ok (.aload_n 0, 1) := by decide +kernel
theorem d_Mo_change_136 : decode prog_14_method_18_code 136 = .ok (.getfield 33, 3) := by decide +kernel
theorem d_Mo_change_139 : decode prog_14_method_18_code 139 = .ok (.iload_n 2, 1) := by decide +kernel
theorem d_Mo_change_140 : decode prog_14_method_18_code 140 = .ok (.iaload, 1) := by decide +kernel
theorem d_Mo_change_141 : decode prog_14_method_18_code 141 = .ok (.iconst 1, 1) := by decide +kernel
theorem d_Mo_change_142 : decode prog_14_method_18_code 142 = .ok (.if_icmp .ne 61, 3) := by decide +kernel
theorem d_Mo_change_145 : decode prog_14_method_18_code 145 = .ok (.aload_n 0, 1) := by decide +kernel
theorem d_Mo_change_146 : decode prog_14_method_18_code 146 = .ok (.iload_n 1, 1) := by decide +kernel
theorem d_Mo_change_147 : decode prog_14_method_18_code 147 = .ok (.iload 6, 2) := by decide +kernel
theorem d_Mo_change_149 : decode prog_14_method_18_code 149 = .ok (.iconst 1, 1) := by decide +kernel
theorem d_Mo_change_150 : decode prog_14_method_18_code 150 = .ok (.iadd, 1) := by decide +kernel
theorem d_Mo_change_151 : decode prog_14_method_18_code 151 = .ok (.iconst 3, 1) := by decide +kernel
theorem d_Mo_change_152 : decode prog_14_method_18_code 152 = .ok (.iload 7, 2) := by decide +kernel
theorem d_Mo_change_154 : decode prog_14_method_18_code 154 = .ok (.imul, 1) := by decide +kernel
theorem d_Mo_change_155 : decode prog_14_method_18_code 155 = .ok (.iadd, 1) := by decide +kernel
theorem d_Mo_change_156 : decode prog_14_method_18_code 156 = .ok (.invokevirtual 69, 3) := by decide +kernel
theorem d_Mo_change_159 : decode prog_14_method_18_code 159 = .ok (.ifCond .ne 38, 3) := by decide +kernel
theorem d_Mo_change_162 : decode prog_14_method_18_code 162 = .ok (.aload_n 0, 1) := by decide +kernel
theorem d_Mo_change_163 : decode prog_14_method_18_code 163 = .ok (.iload_n 1, 1) := by decide +kernel
theorem d_Mo_change_164 : decode prog_14_method_18_code 164 = .ok (.iload 6, 2) := by decide +kernel
theorem d_Mo_change_166 : decode prog_14_method_18_code 166 = .ok (.iconst 2, 1) := by decide +kernel
theorem d_Mo_change_167 : decode prog_14_method_18_code 167 = .ok (.iadd, 1) := by decide +kernel
theorem d_Mo_change_168 : decode prog_14_method_18_code 168 = .ok (.iconst 3, 1) := by decide +kernel
theorem d_Mo_change_169 : decode prog_14_method_18_code 169 = .ok (.iload 7, 2) := by decide +kernel
theorem d_Mo_change_171 : decode prog_14_method_18_code 171 = .ok (.imul, 1) := by decide +kernel
theorem d_Mo_change_172 : decode prog_14_method_18_code 172 = .ok (.iadd, 1) := by decide +kernel
theorem d_Mo_change_173 : decode prog_14_method_18_code 173 = .ok (.aload_n 0, 1) := by decide +kernel
theorem d_Mo_change_174 : decode prog_14_method_18_code 174 = .ok (.iload_n 1, 1) := by decide +kernel
theorem d_Mo_change_175 : decode prog_14_method_18_code 175 = .ok (.iload 6, 2) := by decide +kernel
theorem d_Mo_change_177 : decode prog_14_method_18_code 177 = .ok (.iconst 2, 1) := by decide +kernel
theorem d_Mo_change_178 : decode prog_14_method_18_code 178 = .ok (.iadd, 1) := by decide +kernel
theorem d_Mo_change_179 : decode prog_14_method_18_code 179 = .ok (.iconst 3, 1) := by decide +kernel
theorem d_Mo_change_180 : decode prog_14_method_18_code 180 = .ok (.iload 7, 2) := by decide +kernel
theorem d_Mo_change_182 : decode prog_14_method_18_code 182 = .ok (.imul, 1) := by decide +kernel
theorem d_Mo_change_183 : decode prog_14_method_18_code 183 = .ok (.iadd, 1) := by decide +kernel
theorem d_Mo_change_184 : decode prog_14_method_18_code 184 = .ok (.invokevirtual 69, 3) := by decide +kernel
theorem d_Mo_change_187 : decode prog_14_method_18_code 187 = .ok (.aload_n 0, 1) := by decide +kernel
theorem d_Mo_change_188 : decode prog_14_method_18_code 188 = .ok (.getfield 36, 3) := by decide +kernel
theorem d_Mo_change_191 : decode prog_14_method_18_code 191 = .ok (.iload_n 2, 1) := by decide +kernel
theorem d_Mo_change_192 : decode prog_14_method_18_code 192 = .ok (.iaload, 1) := by decide +kernel
theorem d_Mo_change_193 : decode prog_14_method_18_code 193 = .ok (.iadd, 1) := by decide +kernel
theorem d_Mo_change_194 : decode prog_14_method_18_code 194 = .ok (.invokevirtual 73, 3) := by decide +kernel
theorem d_Mo_change_197 : decode prog_14_method_18_code 197 = .ok (.iinc 7 1, 3) := by decide +kernel
theorem d_Mo_change_200 : decode prog_14_method_18_code 200 = .ok (.goto (-77), 3) := by decide +kernel
theorem d_Mo_change_203 : decode prog_14_method_18_code 203 = .ok (.iinc 5 1, 3) := by decide +kernel
theorem d_Mo_change_206 : decode prog_14_method_18_code 206 = .ok (.goto (-124), 3) := by decide +kernel
theorem d_Mo_change_209 : decode prog_14_method_18_code 209 = .ok (.return_, 1) := by decide +kernel
theorem d_Mo_changes_0 : decode prog_14_method_19_code 0 = .ok (.iconst 0, 1) := by decide +kernel
theorem d_Mo_changes_1 : decode prog_14_method_19_code 1 = .ok (.istore 4, 2) := by decide +kernel
theorem d_Mo_changes_3 : decode prog_14_method_19_code 3 = .ok (.iload 4, 2) := by decide +kernel
theorem d_Mo_changes_5 : decode prog_14_method_19_code 5 = .ok (.iconst 5, 1) := by decide +kernel
theorem d_Mo_changes_6 : decode prog_14_method_19_code 6 = .ok (.if_icmp .ge 59, 3) := by decide +kernel
theorem d_Mo_changes_9 : decode prog_14_method_19_code 9 = .ok (.aload_n 0, 1) := by decide +kernel
theorem d_Mo_changes_10 : decode prog_14_method_19_code 10 = .ok (.getfield 29, 3) := by decide +kernel
theorem d_Mo_changes_13 : decode prog_14_method_19_code 13 = .ok (.iload 4, 2) := by decide +kernel
theorem d_Mo_changes_15 : decode prog_14_method_19_code 15 = .ok (.baload, 1) := by decide +kernel
theorem d_Mo_changes_16 : decode prog_14_method_19_code 16 = .ok (.ifCond .eq 43, 3) := by decide +kernel
theorem d_Mo_changes_19 : decode prog_14_method_19_code 19 = .ok (.aload_n 0, 1) := by decide +kernel
theorem d_Mo_changes_20 : decode prog_14_method_19_code 20 = .ok (.getfield 42, 3) := by decide +kernel
theorem d_Mo_changes_23 : decode prog_14_method_19_code 23 = .ok (.iload 4, 2) := by decide +kernel
theorem d_Mo_changes_25 : decode prog_14_method_19_code 25 = .ok (.baload, 1) := by decide +kernel
theorem d_Mo_changes_26 : decode prog_14_method_19_code 26 = .ok (.iload_n 3, 1) := by decide +kernel
theorem d_Mo_changes_27 : decode prog_14_method_19_code 27 = .ok (.if_icmp .ne 32, 3) := by decide +kernel
theorem d_Mo_changes_30 : decode prog_14_method_19_code 30 = .ok (.aload_n 0, 1) := by decide +kernel
theorem d_Mo_changes_31 : decode prog_14_method_19_code 31 = .ok (.getfield 39, 3) := by decide +kernel
theorem d_Mo_changes_34 : decode prog_14_method_19_code 34 = .ok (.iload 4, 2) := by decide +kernel
theorem d_Mo_changes_36 : decode prog_14_method_19_code 36 = .ok (.iaload, 1) := by decide +kernel
theorem d_Mo_changes_37 : decode prog_14_method_19_code 37 = .ok (.iconst (-1), 1) := by decide +kernel
theorem d_Mo_changes_38 : decode prog_14_method_19_code 38 = .ok (.if_icmp .eq 14, 3) := by decide +kernel
theorem d_Mo_changes_41 : decode prog_14_method_19_code 41 = .ok (.aload_n 0, 1) := by decide +kernel
theorem d_Mo_changes_42 : decode prog_14_method_19_code 42 = .ok (.getfield 39, 3) := by decide +kernel
theorem d_Mo_changes_45 : decode prog_14_method_19_code 45 = .ok (.iload 4, 2) := by decide +kernel
theorem d_Mo_changes_47 : decode prog_14_method_19_code 47 = .ok (.iaload, 1) := by decide +kernel
theorem d_Mo_changes_48 : decode prog_14_method_19_code 48 = .ok (.iload_n 2, 1) := by decide +kernel
theorem d_Mo_changes_49 : decode prog_14_method_19_code 49 = .ok (.if_icmp .ne 10, 3) := by decide +kernel
theorem d_Mo_changes_52 : decode prog_14_method_19_code 52 = .ok (.aload_n 0, 1) := by decide +kernel
theorem d_Mo_changes_53 : decode prog_14_method_19_code 53 = .ok (.iload_n 1, 1) := by decide +kernel
theorem d_Mo_changes_54 : decode prog_14_method_19_code 54 = .ok (.iload 4, 2) := by decide +kernel
theorem d_Mo_changes_56 : decode prog_14_method_19_code 56 = .ok (.invokevirtual 92, 3) := by decide +kernel
theorem d_Mo_changes_59 : decode prog_14_method_19_code 59 = .ok (.iinc 4 1, 3) := by decide +kernel
theorem d_Mo_changes_62 : decode prog_14_method_19_code 62 = .ok (.goto (-59), 3) := by decide +kernel
theorem d_Mo_changes_65 : decode prog_14_method_19_code 65 = .ok (.return_, 1) := by decide +kernel
theorem d_Mo_treat_0 : decode prog_14_method_20_code 0 = .ok (.aload_n 0, 1) := by decide +kernel
theorem d_Mo_treat_1 : decode prog_14_method_20_code 1 = .ok (.iload_n 1, 1) := by decide +kernel
theorem d_Mo_treat_2 : decode prog_14_method_20_code 2 = .ok (.iload_n 3, 1) := by decide +kernel
theorem d_Mo_treat_3 : decode prog_14_method_20_code 3 = .ok (.iconst 0, 1) := by decide +kernel
theorem d_Mo_treat_4 : decode prog_14_method_20_code 4 = .ok (.invokevirtual 95, 3) := by decide +kernel
theorem d_Mo_treat_7 : decode prog_14_method_20_code 7 = .ok (.aload_n 0, 1) := by decide +kernel
theorem d_Mo_treat_8 : decode prog_14_method_20_code 8 = .ok (.iload_n 1, 1) := by decide +kernel
theorem d_Mo_treat_9 : decode prog_14_method_20_code 9 = .ok (.iload_n 2, 1) := by decide +kernel
theorem d_Mo_treat_10 : decode prog_14_method_20_code 10 = .ok (.invokevirtual 81, 3) := by decide +kernel
theorem d_Mo_treat_13 : decode prog_14_method_20_code 13 = .ok (.aload_n 0, 1) := by decide +kernel
theorem d_Mo_treat_14 : decode prog_14_method_20_code 14 = .ok (.iload_n 1, 1) := by decide +kernel
theorem d_Mo_treat_15 : decode prog_14_method_20_code 15 = .ok (.iload_n 3, 1) := by decide +kernel
theorem d_Mo_treat_16 : decode prog_14_method_20_code 16 = .ok (.iconst 1, 1) := by decide +kernel
theorem d_Mo_treat_17 : decode prog_14_method_20_code 17 = .ok (.invokevirtual 95, 3) := by decide +kernel
theorem d_Mo_treat_20 : decode prog_14_method_20_code 20 = .ok (.return_, 1) := by decide +kernel
theorem d_Mo_twice_0 : decode prog_14_method_21_code 0 = .ok (.iconst 0, 1) := by decide +kernel
theorem d_Mo_twice_1 : decode prog_14_method_21_code 1 = .ok (.istore 5, 2) := by decide +kernel
theorem d_Mo_twice_3 : decode prog_14_method_21_code 3 = .ok (.iconst 0, 1) := by decide +kernel
theorem d_Mo_twice_4 : decode prog_14_method_21_code 4 = .ok (.istore 6, 2) := by decide +kernel
theorem d_Mo_twice_6 : decode prog_14_method_21_code 6 = .ok (.iload 6, 2) := by decide +kernel
theorem d_Mo_twice_8 : decode prog_14_method_21_code 8 = .ok (.iload 4, 2) := by decide +kernel
theorem d_Mo_twice_10 : decode prog_14_method_21_code 10 = .ok (.if_icmp .ge 62, 3) := by decide +kernel
theorem d_Mo_twice_13 : decode prog_14_method_21_code 13 = .ok (.iconst 0, 1) := by decide +kernel
theorem d_Mo_twice_14 : decode prog_14_method_21_code 14 = .ok (.istore 7, 2) := by decide +kernel
theorem d_Mo_twice_16 : decode prog_14_method_21_code 16 = .ok (.iload 7, 2) := by decide +kernel
theorem d_Mo_twice_18 : decode prog_14_method_21_code 18 = .ok (.iload 6, 2) := by decide +kernel
theorem d_Mo_twice_20 : decode prog_14_method_21_code 20 = .ok (.if_icmp .ge 46, 3) := by decide +kernel
theorem d_Mo_twice_23 : decode prog_14_method_21_code 23 = .ok (.iload 5, 2) := by decide +kernel
theorem d_Mo_twice_25 : decode prog_14_method_21_code 25 = .ok (.ifCond .ne 28, 3) := by decide +kernel
theorem d_Mo_twice_28 : decode prog_14_method_21_code 28 = .ok (.aload_n 0, 1) := by decide +kernel
theorem d_Mo_twice_29 : decode prog_14_method_21_code 29 = .ok (.iload_n 1, 1) := by decide +kernel
theorem d_Mo_twice_30 : decode prog_14_method_21_code 30 = .ok (.iload_n 2, 1) := by decide +kernel
theorem d_Mo_twice_31 : decode prog_14_method_21_code 31 = .ok (.iload_n 3, 1) := by decide +kernel
theorem d_Mo_twice_32 : decode prog_14_method_21_code 32 = .ok (.iload 6, 2) := by decide +kernel
theorem d_Mo_twice_34 : decode prog_14_method_21_code 34 = .ok (.imul, 1) := by decide +kernel
theorem d_Mo_twice_35 : decode prog_14_method_21_code 35 = .ok (.iadd, 1) := by decide +kernel
theorem d_Mo_twice_36 : decode prog_14_method_21_code 36 = .ok (.invokevirtual 69, 3) := by decide +kernel
theorem d_Mo_twice_39 : decode prog_14_method_21_code 39 = .ok (.aload_n 0, 1) := by decide +kernel
theorem d_Mo_twice_40 : decode prog_14_method_21_code 40 = .ok (.iload_n 1, 1) := by decide +kernel
theorem d_Mo_twice_41 : decode prog_14_method_21_code 41 = .ok (.iload_n 2, 1) := by decide +kernel
theorem d_Mo_twice_42 : decode prog_14_method_21_code 42 = .ok (.iload_n 3, 1) := by decide +kernel
theorem d_Mo_twice_43 : decode prog_14_method_21_code 43 = .ok (.iload 7, 2) := by decide +kernel
theorem d_Mo_twice_45 : decode prog_14_method_21_code 45 = .ok (.imul, 1) := by decide +kernel
theorem d_Mo_twice_46 : decode prog_14_method_21_code 46 = .ok (.iadd, 1) := by decide +kernel
theorem d_Mo_twice_47 : decode prog_14_method_21_code 47 = .ok (.invokevirtual 69, 3) := by decide +kernel
theorem d_Mo_twice_50 : decode prog_14_method_21_code 50 = .ok (.if_icmp .ne 7, 3) := by decide +kernel
theorem d_Mo_twice_53 : decode prog_14_method_21_code 53 = .ok (.iconst 1, 1) := by decide +kernel
theorem d_Mo_twice_54 : decode prog_14_method_21_code 54 = .ok (.goto 4, 3) := by decide +kernel
theorem d_Mo_twice_57 : decode prog_14_method_21_code 57 = .ok (.iconst 0, 1) := by decide +kernel
theorem d_Mo_twice_58 : decode prog_14_method_21_code 58 = .ok (.istore 5, 2) := by decide +kernel
theorem d_Mo_twice_60 : decode prog_14_method_21_code 60 = .ok (.iinc 7 1, 3) := by decide +kernel
theorem d_Mo_twice_63 : decode prog_14_method_21_code 63 = .ok (.goto (-47), 3) := by decide +kernel
theorem d_Mo_twice_66 : decode prog_14_method_21_code 66 = .ok (.iinc 6 1, 3) := by decide +kernel
theorem d_Mo_twice_69 : decode prog_14_method_21_code 69 = .ok (.goto (-63), 3) := by decide +kernel
theorem d_Mo_twice_72 : decode prog_14_method_21_code 72 = .ok (.iload 5, 2) := by decide +kernel
theorem d_Mo_twice_74 : decode prog_14_method_21_code 74 = .ok (.ireturn, 1) := by decide +kernel
theorem d_Mo_strangeOp_0 : decode prog_14_method_22_code 0 = .ok (.iconst 0, 1) := by decide +kernel
theorem d_Mo_strangeOp_1 : decode prog_14_method_22_code 1 = .ok (.istore_n 2, 1) := by decide +kernel
theorem d_Mo_strangeOp_2 : decode prog_14_method_22_code 2 = .ok (.iconst 0, 1) := by decide +kernel
theorem d_Mo_strangeOp_3 : decode prog_14_method_22_code 3 = .ok (.istore_n 3, 1) := by decide +kernel
theorem d_Mo_strangeOp_4 : decode prog_14_method_22_code 4 = .ok (.iload_n 3, 1) := by decide +kernel
theorem d_Mo_strangeOp_5 : decode prog_14_method_22_code 5 = .ok (.aload_n 0, 1) := by decide +kernel
theorem d_Mo_strangeOp_6 : decode prog_14_method_22_code 6 = .ok (.iload_n 1, 1) := by decide +kernel
theorem d_Mo_strangeOp_7 : decode prog_14_method_22_code 7 = .ok (.bipush 22, 2) := by decide +kernel
theorem d_Mo_strangeOp_9 : decode prog_14_method_22_code 9 = .ok (.invokevirtual 69, 3) := by decide +kernel
theorem d_Mo_strangeOp_12 : decode prog_14_method_22_code 12 = .ok (.if_icmp .ge 75, 3) := by decide +kernel
theorem d_Mo_strangeOp_15 : decode prog_14_method_22_code 15 = .ok (.iload_n 3, 1) := by decide +kernel
theorem d_Mo_strangeOp_16 : decode prog_14_method_22_code 16 = .ok (.invokestatic 85, 3) := by decide +kernel
theorem d_Mo_strangeOp_19 : decode prog_14_method_22_code 19 = .ok (.iconst 2, 1) := by decide +kernel
theorem d_Mo_strangeOp_20 : decode prog_14_method_22_code 20 = .ok (.iadd, 1) := by decide +kernel
theorem d_Mo_strangeOp_21 : decode prog_14_method_22_code 21 = .ok (.istore 4, 2) := by decide +kernel
theorem d_Mo_strangeOp_23 : decode prog_14_method_22_code 23 = .ok (.iconst 0, 1) := by decide +kernel
theorem d_Mo_strangeOp_24 : decode prog_14_method_22_code 24 = .ok (.istore 5, 2) := by decide +kernel
theorem d_Mo_strangeOp_26 : decode prog_14_method_22_code 26 = .ok (.iload 5, 2) := by decide +kernel
theorem d_Mo_strangeOp_28 : decode prog_14_method_22_code 28 = .ok (.aload_n 0, 1) := by decide +kernel
theorem d_Mo_strangeOp_29 : decode prog_14_method_22_code 29 = .ok (.iload_n 1, 1) := by decide +kernel
theorem d_Mo_strangeOp_30 : decode prog_14_method_22_code 30 = .ok (.iload 4, 2) := by decide +kernel
theorem d_Mo_strangeOp_32 : decode prog_14_method_22_code 32 = .ok (.invokevirtual 69, 3) := by decide +kernel
theorem d_Mo_strangeOp_35 : decode prog_14_method_22_code 35 = .ok (.if_icmp .ge 46, 3) := by decide +kernel
theorem d_Mo_strangeOp_38 : decode prog_14_method_22_code 38 = .ok (.aload_n 0, 1) := by decide +kernel
theorem d_Mo_strangeOp_39 : decode prog_14_method_22_code 39 = .ok (.iload_n 1, 1) := by decide +kernel
theorem d_Mo_strangeOp_40 : decode prog_14_method_22_code 40 = .ok (.iload 4, 2) := by decide +kernel
theorem d_Mo_strangeOp_42 : decode prog_14_method_22_code 42 = .ok (.iconst 1, 1) := by decide +kernel
theorem d_Mo_strangeOp_43 : decode prog_14_method_22_code 43 = .ok (.iadd, 1) := by decide +kernel
theorem d_Mo_strangeOp_44 : decode prog_14_method_22_code 44 = .ok (.iconst 3, 1) := by decide +kernel
theorem d_Mo_strangeOp_45 : decode prog_14_method_22_code 45 = .ok (.iload 5, 2) := by decide +kernel
theorem d_Mo_strangeOp_47 : decode prog_14_method_22_code 47 = .ok (.imul, 1) := by decide +kernel
theorem d_Mo_strangeOp_48 : decode prog_14_method_22_code 48 = .ok (.iadd, 1) := by decide +kernel
theorem d_Mo_strangeOp_49 : decode prog_14_method_22_code 49 = .ok (.invokevirtual 69, 3) := by decide +kernel
theorem d_Mo_strangeOp_52 : decode prog_14_method_22_code 52 = .ok (.istore 6, 2) := by decide +kernel
theorem d_Mo_strangeOp_54 : decode prog_14_method_22_code 54 = .ok (.iload_n 2, 1) := by decide +kernel
theorem d_Mo_strangeOp_55 : decode prog_14_method_22_code 55 = .ok (.ifCond .ne 14, 3) := by decide +kernel
theorem d_Mo_strangeOp_58 : decode prog_14_method_22_code 58 = .ok (.iload 6, 2) := by decide +kernel
theorem d_Mo_strangeOp_60 : decode prog_14_method_22_code 60 = .ok (.ifCond .eq 13, 3) := by decide +kernel
theorem d_Mo_strangeOp_63 : decode prog_14_method_22_code 63 = .ok (.iload 6, 2) := by decide +kernel
theorem d_Mo_strangeOp_65 : decode prog_14_method_22_code 65 = .ok (.iconst 1, 1) := by decide +kernel
theorem d_Mo_strangeOp_66 : decode prog_14_method_22_code 66 = .ok (.if_icmp .eq 7, 3) := by decide +kernel
theorem d_Mo_strangeOp_69 : decode prog_14_method_22_code 69 = .ok (.iconst 1, 1) := by decide +kernel
theorem d_Mo_strangeOp_70 : decode prog_14_method_22_code 70 = .ok (.goto 4, 3) := by decide +kernel
theorem d_Mo_strangeOp_73 : decode prog_14_method_22_code 73 = .ok (.iconst 0, 1) := by decide +kernel
theorem d_Mo_strangeOp_74 : decode prog_14_method_22_code 74 = .ok (.istore_n 2, 1) := by decide +kernel
theorem d_Mo_strangeOp_75 : decode prog_14_method_22_code 75 = .ok (.iinc 5 1, 3) := by decide +kernel
theorem d_Mo_strangeOp_78 : decode prog_14_method_22_code 78 = .ok (.goto (-52), 3) := by decide +kernel
theorem d_Mo_strangeOp_81 : decode prog_14_method_22_code 81 = .ok (.iinc 3 1, 3) := by decide +kernel
theorem d_Mo_strangeOp_84 : decode prog_14_method_22_code 84 = .ok (.goto (-80), 3) := by decide +kernel
theorem d_Mo_strangeOp_87 : decode prog_14_method_22_code 87 = .ok (.iload_n 2, 1) := by decide +kernel
theorem d_Mo_strangeOp_88 : decode prog_14_method_22_code 88 = .ok (.ireturn, 1) := by decide +kernel
theorem d_Mo_circle_0 : decode prog_14_method_23_code 0 = .ok (.aload_n 0, 1) := by decide +kernel
theorem d_Mo_circle_1 : decode prog_14_method_23_code 1 = .ok (.iload_n 1, 1) := by decide +kernel
theorem d_Mo_circle_2 : decode prog_14_method_23_code 2 = .ok (.iconst 1, 1) := by decide +kernel
theorem d_Mo_circle_3 : decode prog_14_method_23_code 3 = .ok (.invokevirtual 69, 3) := by decide +kernel
theorem d_Mo_circle_6 : decode prog_14_method_23_code 6 = .ok (.istore_n 2, 1) := by decide +kernel
theorem d_Mo_circle_7 : decode prog_14_method_23_code 7 = .ok (.aload_n 0, 1) := by decide +kernel
theorem d_Mo_circle_8 : decode prog_14_method_23_code 8 = .ok (.iload_n 1, 1) := by decide +kernel
theorem d_Mo_circle_9 : decode prog_14_method_23_code 9 = .ok (.iconst 2, 1) := by decide +kernel
theorem d_Mo_circle_10 : decode prog_14_method_23_code 10 = .ok (.invokevirtual 69, 3) := by decide +kernel
theorem d_Mo_circle_13 : decode prog_14_method_23_code 13 = .ok (.istore_n 3, 1) := by decide +kernel
theorem d_Mo_circle_14 : decode prog_14_method_23_code 14 = .ok (.iload_n 3, 1) := by decide +kernel
theorem d_Mo_circle_15 : decode prog_14_method_23_code 15 = .ok (.iload_n 2, 1) := by decide +kernel
theorem d_Mo_circle_16 : decode prog_14_method_23_code 16 = .ok (.if_icmp .ne 7, 3) := by decide +kernel
theorem d_Mo_circle_19 : decode prog_14_method_23_code 19 = .ok (.iconst 1, 1) := by decide +kernel
theorem d_Mo_circle_20 : decode prog_14_method_23_code 20 = .ok (.goto 4, 3) := by decide +kernel
theorem d_Mo_circle_23 : decode prog_14_method_23_code 23 = .ok (.iconst 0, 1) := by decide +kernel
theorem d_Mo_circle_24 : decode prog_14_method_23_code 24 = .ok (.istore 4, 2) := by decide +kernel
theorem d_Mo_circle_26 : decode prog_14_method_23_code 26 = .ok (.iconst 0, 1) := by decide +kernel
theorem d_Mo_circle_27 : decode prog_14_method_23_code 27 = .ok (.istore 5, 2) := by decide +kernel
theorem d_Mo_circle_29 : decode prog_14_method_23_code 29 = .ok (.iload 5, 2) := by decide +kernel
theorem d_Mo_circle_31 : decode prog_14_method_23_code 31 = .ok (.bipush 10, 2) := by decide +kernel
theorem d_Mo_circle_33 : decode prog_14_method_23_code 33 = .ok (.if_icmp .ge 46, 3) := by decide +kernel
theorem d_Mo_circle_36 : decode prog_14_method_23_code 36 = .ok (.iload 4, 2) := by decide +kernel
theorem d_Mo_circle_38 : decode prog_14_method_23_code 38 = .ok (.ifCond .ne 41, 3) := by decide +kernel
theorem d_Mo_circle_41 : decode prog_14_method_23_code 41 = .ok (.aload_n 0, 1) := by decide +kernel
theorem d_Mo_circle_42 : decode prog_14_method_23_code 42 = .ok (.iload_n 3, 1) := by decide +kernel
theorem d_Mo_circle_43 : decode prog_14_method_23_code 43 = .ok (.invokevirtual 77, 3) := by decide +kernel
theorem d_Mo_circle_46 : decode prog_14_method_23_code 46 = .ok (.ifCond .eq 33, 3) := by decide +kernel
theorem d_Mo_circle_49 : decode prog_14_method_23_code 49 = .ok (.aload_n 0, 1) := by decide +kernel
theorem d_Mo_circle_50 : decode prog_14_method_23_code 50 = .ok (.aload_n 0, 1) := by decide +kernel
theorem d_Mo_circle_51 : decode prog_14_method_23_code 51 = .ok (.getfield 17, 3) := by decide +kernel
theorem d_Mo_circle_54 : decode prog_14_method_23_code 54 = .ok (.iload_n 3, 1) := by decide +kernel
theorem d_Mo_circle_55 : decode prog_14_method_23_code 55 = .ok (.iaload, 1) := by decide +kernel
theorem d_Mo_circle_56 : decode prog_14_method_23_code 56 = .ok (.iconst 2, 1) := by decide +kernel
theorem d_Mo_circle_57 : decode prog_14_method_23_code 57 = .ok (.invokevirtual 69, 3) := by decide +kernel
theorem d_Mo_circle_60 : decode prog_14_method_23_code 60 = .ok (.istore_n 3, 1) := by decide +kernel
theorem d_Mo_circle_61 : decode prog_14_method_23_code 61 = .ok (.iload_n 3, 1) := by decide +kernel
theorem d_Mo_circle_62 : decode prog_14_method_23_code 62 = .ok (.iload_n 2, 1) := by decide +kernel
theorem d_Mo_circle_63 : decode prog_14_method_23_code 63 = .ok (.if_icmp .ne 7, 3) := by decide +kernel
theorem d_Mo_circle_66 : decode prog_14_method_23_code 66 = .ok (.iconst 1, 1) := by decide +kernel
theorem d_Mo_circle_67 : decode prog_14_method_23_code 67 = .ok (.goto 4, 3) := by decide +kernel
theorem d_Mo_circle_70 : decode prog_14_method_23_code 70 = .ok (.iconst 0, 1) := by decide +kernel
theorem d_Mo_circle_71 : decode prog_14_method_23_code 71 = .ok (.istore 4, 2) := by decide +kernel
theorem d_Mo_circle_73 : decode prog_14_method_23_code 73 = .ok (.iinc 5 1, 3) := by decide +kernel
theorem d_Mo_circle_76 : decode prog_14_method_23_code 76 = .ok (.goto (-47), 3) := by decide +kernel
theorem d_Mo_circle_79 : decode prog_14_method_23_code 79 = .ok (.iload 4, 2) := by decide +kernel
theorem d_Mo_circle_81 : decode prog_14_method_23_code 81 = .ok (.ireturn, 1) := by decide +kernel
theorem d_Mo_callsNothing_0 : decode prog_14_method_24_code 0 = .ok (.iconst 0, 1) := by decide +kernel
theorem d_Mo_callsNothing_1 : decode prog_14_method_24_code 1 = .ok (.istore_n 2, 1) := by decide +kernel
theorem d_Mo_callsNothing_2 : decode prog_14_method_24_code 2 = .ok (.iconst 0, 1) := by decide +kernel
theorem d_Mo_callsNothing_3 : decode prog_14_method_24_code 3 = .ok (.istore_n 3, 1) := by decide +kernel
theorem d_Mo_callsNothing_4 : decode prog_14_method_24_code 4 = .ok (.iload_n 3, 1) := by decide +kernel
theorem d_Mo_callsNothing_5 : decode prog_14_method_24_code 5 = .ok (.aload_n 0, 1) := by decide +kernel
theorem d_Mo_callsNothing_6 : decode prog_14_method_24_code 6 = .ok (.iload_n 1, 1) := by decide +kernel
theorem d_Mo_callsNothing_7 : decode prog_14_method_24_code 7 = .ok (.bipush 22, 2) := by decide +kernel
theorem d_Mo_callsNothing_9 : decode prog_14_method_24_code 9 = .ok (.invokevirtual 69, 3) := by decide +kernel
theorem d_Mo_callsNothing_12 : decode prog_14_method_24_code 12 = .ok (.if_icmp .ge 166, 3) := by decide +kernel
theorem d_Mo_callsNothing_15 : decode prog_14_method_24_code 15 = .ok (.iload_n 3, 1) := by decide +kernel
theorem d_Mo_callsNothing_16 : decode prog_14_method_24_code 16 = .ok (.invokestatic 85, 3) := by decide +kernel
theorem d_Mo_callsNothing_19 : decode prog_14_method_24_code 19 = .ok (.iconst 2, 1) := by decide +kernel
theorem d_Mo_callsNothing_20 : decode prog_14_method_24_code 20 = .ok (.iadd, 1) := by decide +kernel
theorem d_Mo_callsNothing_21 : decode prog_14_method_24_code 21 = .ok (.istore 4, 2) := by decide +kernel
theorem d_Mo_callsNothing_23 : decode prog_14_method_24_code 23 = .ok (.iconst 0, 1) := by decide +kernel
theorem d_Mo_callsNothing_24 : decode prog_14_method_24_code 24 = .ok (.istore 5, 2) := by decide +kernel
theorem d_Mo_callsNothing_26 : decode prog_14_method_24_code 26 = .ok (.iload 5, 2) := by decide +kernel
theorem d_Mo_callsNothing_28 : decode prog_14_method_24_code 28 = .ok (.aload_n 0, 1) := by decide +kernel
theorem d_Mo_callsNothing_29 : decode prog_14_method_24_code 29 = .ok (.iload_n 1, 1) := by decide +kernel
theorem d_Mo_callsNothing_30 : decode prog_14_method_24_code 30 = .ok (.iload 4, 2) := by decide +kernel
theorem d_Mo_callsNothing_32 : decode prog_14_method_24_code 32 = .ok (.invokevirtual 69, 3) := by decide +kernel
theorem d_Mo_callsNothing_35 : decode prog_14_method_24_code 35 = .ok (.if_icmp .ge 137, 3) := by decide +kernel
theorem d_Mo_callsNothing_38 : decode prog_14_method_24_code 38 = .ok (.aload_n 0, 1) := by decide +kernel
theorem d_Mo_callsNothing_39 : decode prog_14_method_24_code 39 = .ok (.iload_n 1, 1) := by decide +kernel
theorem d_Mo_callsNothing_40 : decode prog_14_method_24_code 40 = .ok (.iload 4, 2) := by decide +kernel
theorem d_Mo_callsNothing_42 : decode prog_14_method_24_code 42 = .ok (.iconst 2, 1) := by decide +kernel
theorem d_Mo_callsNothing_43 : decode prog_14_method_24_code 43 = .ok (.iadd, 1) := by decide +kernel
theorem d_Mo_callsNothing_44 : decode prog_14_method_24_code 44 = .ok (.iconst 3, 1) := by decide +kernel
theorem d_Mo_callsNothing_45 : decode prog_14_method_24_code 45 = .ok (.iload 5, 2) := by decide +kernel
theorem d_Mo_callsNothing_47 : decode prog_14_method_24_code 47 = .ok (.imul, 1) := by decide +kernel
theorem d_Mo_callsNothing_48 : decode prog_14_method_24_code 48 = .ok (.iadd, 1) := by decide +kernel
theorem d_Mo_callsNothing_49 : decode prog_14_method_24_code 49 = .ok (.invokevirtual 69, 3) := by decide +kernel
theorem d_Mo_callsNothing_52 : decode prog_14_method_24_code 52 = .ok (.istore 6, 2) := by decide +kernel
theorem d_Mo_callsNothing_54 : decode prog_14_method_24_code 54 = .ok (.aload_n 0, 1) := by decide +kernel
theorem d_Mo_callsNothing_55 : decode prog_14_method_24_code 55 = .ok (.iload_n 1, 1) := by decide +kernel
theorem d_Mo_callsNothing_56 : decode prog_14_method_24_code 56 = .ok (.iload 4, 2) := by decide +kernel
theorem d_Mo_callsNothing_58 : decode prog_14_method_24_code 58 = .ok (.iconst 3, 1) := by decide +kernel
theorem d_Mo_callsNothing_59 : decode prog_14_method_24_code 59 = .ok (.iadd, 1) := by decide +kernel
theorem d_Mo_callsNothing_60 : decode prog_14_method_24_code 60 = .ok (.iconst 3, 1) := by decide +kernel
theorem d_Mo_callsNothing_61 : decode prog_14_method_24_code 61 = .ok (.iload 5, 2) := by decide +kernel
theorem d_Mo_callsNothing_63 : decode prog_14_method_24_code 63 = .ok (.imul, 1) := by decide +kernel
theorem d_Mo_callsNothing_64 : decode prog_14_method_24_code 64 = .ok (.iadd, 1) := by decide +kernel
theorem d_Mo_callsNothing_65 : decode prog_14_method_24_code 65 = .ok (.invokevirtual 69, 3) := by decide +kernel
theorem d_Mo_callsNothing_68 : decode prog_14_method_24_code 68 = .ok (.istore 7, 2) := by decide +kernel
theorem d_Mo_callsNothing_70 : decode prog_14_method_24_code 70 = .ok (.iload 6, 2) := by decide +kernel
theorem d_Mo_callsNothing_72 : decode prog_14_method_24_code 72 = .ok (.aload_n 0, 1) := by decide +kernel
theorem d_Mo_callsNothing_73 : decode prog_14_method_24_code 73 = .ok (.iload_n 1, 1) := by decide +kernel
theorem d_Mo_callsNothing_74 : decode prog_14_method_24_code 74 = .ok (.iconst 1, 1) := by decide +kernel
theorem d_Mo_callsNothing_75 : decode prog_14_method_24_code 75 = .ok (.invokevirtual 69, 3) := by decide +kernel
theorem d_Mo_callsNothing_78 : decode prog_14_method_24_code 78 = .ok (.if_icmp .ne 22, 3) := by decide +kernel
theorem d_Mo_callsNothing_81 : decode prog_14_method_24_code 81 = .ok (.aload_n 0, 1) := by decide +kernel
theorem d_Mo_callsNothing_82 : decode prog_14_method_24_code 82 = .ok (.iload_n 1, 1) := by decide +kernel
theorem d_Mo_callsNothing_83 : decode prog_14_method_24_code 83 = .ok (.iload 7, 2) := by decide +kernel
theorem d_Mo_callsNothing_85 : decode prog_14_method_24_code 85 = .ok (.invokevirtual 89, 3) := by decide +kernel
theorem d_Mo_callsNothing_88 : decode prog_14_method_24_code 88 = .ok (.iconst (-1), 1) := by decide +kernel
theorem d_Mo_callsNothing_89 : decode prog_14_method_24_code 89 = .ok (.if_icmp .eq 7, 3) := by decide +kernel
theorem d_Mo_callsNothing_92 : decode prog_14_method_24_code 92 = .ok (.iconst 1, 1) := by decide +kernel
theorem d_Mo_callsNothing_93 : decode prog_14_method_24_code 93 = .ok (.goto 38, 3) := by decide +kernel
theorem d_Mo_callsNothing_96 : decode prog_14_method_24_code 96 = .ok (.iconst 0, 1) := by decide +kernel
theorem d_Mo_callsNothing_97 : decode prog_14_method_24_code 97 = .ok (.goto 34, 3) := by decide +kernel
theorem d_Mo_callsNothing_100 : decode prog_14_method_24_code 100 = .ok (.aload_n 0, 1) := by decide +kernel
theorem d_Mo_callsNothing_101 : decode prog_14_method_24_code 101 = .ok (.iload 6, 2) := by decide +kernel
theorem d_Mo_callsNothing_103 : decode prog_14_method_24_code 103 = .ok (.invokevirtual 77, 3) := by decide +kernel
theorem d_Mo_callsNothing_106 : decode prog_14_method_24_code 106 = .ok (.ifCond .eq 24, 3) := by decide +kernel
theorem d_Mo_callsNothing_109 : decode prog_14_method_24_code 109 = .ok (.aload_n 0, 1) := by decide +kernel
theorem d_Mo_callsNothing_110 : decode prog_14_method_24_code 110 = .ok (.aload_n 0, 1) := by decide +kernel
theorem d_Mo_callsNothing_111 : decode prog_14_method_24_code 111 = .ok (.getfield 17, 3) := by decide +kernel
theorem d_Mo_callsNothing_114 : decode prog_14_method_24_code 114 = .ok (.iload 6, 2) := by decide +kernel
theorem d_Mo_callsNothing_116 : decode prog_14_method_24_code 116 = .ok (.iaload, 1) := by decide +kernel
theorem d_Mo_callsNothing_117 : decode prog_14_method_24_code 117 = .ok (.iload 7, 2) := by decide +kernel
theorem d_Mo_callsNothing_119 : decode prog_14_method_24_code 119 = .ok (.invokevirtual 89, 3) := by decide +kernel
theorem d_Mo_callsNothing_122 : decode prog_14_method_24_code 122 = .ok (.iconst (-1), 1) := by decide +kernel
theorem d_Mo_callsNothing_123 : decode prog_14_method_24_code 123 = .ok (.if_icmp .eq 7, 3) := by decide +kernel
theorem d_Mo_callsNothing_126 : decode prog_14_method_24_code 126 = .ok (.iconst 1, 1) := by decide +kernel
theorem d_Mo_callsNothing_127 : decode prog_14_method_24_code 127 = .ok (.goto 4, 3) := by decide +kernel
theorem d_Mo_callsNothing_130 : decode prog_14_method_24_code 130 = .ok (.iconst 0, 1) := by decide +kernel
theorem d_Mo_callsNothing_131 : decode prog_14_method_24_code 131 = .ok (.istore 8, 2) := by decide +kernel
theorem d_Mo_callsNothing_133 : decode prog_14_method_24_code 133 = .ok (.iload_n 2, 1) := by decide +kernel
theorem d_Mo_callsNothing_134 : decode prog_14_method_24_code 134 = .ok (.ifCond .ne 26, 3) := by decide +kernel
theorem d_Mo_callsNothing_137 : decode prog_14_method_24_code 137 = .ok (.aload_n 0, 1) := by decide +kernel
theorem d_Mo_callsNothing_138 : decode prog_14_method_24_code 138 = .ok (.iload_n 1, 1) := by decide +kernel
theorem d_Mo_callsNothing_139 : decode prog_14_method_24_code 139 = .ok (.iload 4, 2) := by decide +kernel
theorem d_Mo_callsNothing_141 : decode prog_14_method_24_code 141 = .ok (.iconst 1, 1) := by decide +kernel
theorem d_Mo_callsNothing_142 : decode prog_14_method_24_code 142 = .ok (.iadd, 1) := by decide +kernel
theorem d_Mo_callsNothing_143 : decode prog_14_method_24_code 143 = .ok (.iconst 3, 1) := by decide +kernel
theorem d_Mo_callsNothing_144 : decode prog_14_method_24_code 144 = .ok (.iload 5, 2) := by decide +kernel
theorem d_Mo_callsNothing_146 : decode prog_14_method_24_code 146 = .ok (.imul, 1) := by decide +kernel
theorem d_Mo_callsNothing_147 : decode prog_14_method_24_code 147 = .ok (.iadd, 1) := by decide +kernel
theorem d_Mo_callsNothing_148 : decode prog_14_method_24_code 148 = .ok (.invokevirtual 69, 3) := by decide +kernel
theorem d_Mo_callsNothing_151 : decode prog_14_method_24_code 151 = .ok (.iconst 1, 1) := by decide +kernel
theorem d_Mo_callsNothing_152 : decode prog_14_method_24_code 152 = .ok (.if_icmp .ne 12, 3) := by decide +kernel
theorem d_Mo_callsNothing_155 : decode prog_14_method_24_code 155 = .ok (.iload 8, 2) := by decide +kernel
theorem d_Mo_callsNothing_157 : decode prog_14_method_24_code 157 = .ok (.ifCond .ne 7, 3) := by decide +kernel
theorem d_Mo_callsNothing_160 : decode prog_14_method_24_code 160 = .ok (.iconst 1, 1) := by decide +kernel
theorem d_Mo_callsNothing_161 : decode prog_14_method_24_code 161 = .ok (.goto 4, 3) := by decide +kernel
theorem d_Mo_callsNothing_164 : decode prog_14_method_24_code 164 = .ok (.iconst 0, 1) := by decide +kernel
theorem d_Mo_callsNothing_165 : decode prog_14_method_24_code 165 = .ok (.istore_n 2, 1) := by decide +kernel
theorem d_Mo_callsNothing_166 : decode prog_14_method_24_code 166 = .ok (.iinc 5 1, 3) := by decide +kernel
theorem d_Mo_callsNothing_169 : decode prog_14_method_24_code 169 = .ok (.goto (-143), 3) := by decide +kernel
theorem d_Mo_callsNothing_172 : decode prog_14_method_24_code 172 = .ok (.iinc 3 1, 3) := by decide +kernel
theorem d_Mo_callsNothing_175 : decode prog_14_method_24_code 175 = .ok (.goto (-171), 3) := by decide +kernel
theorem d_Mo_callsNothing_178 : decode prog_14_method_24_code 178 = .ok (.iload_n 2, 1) := by decide +kernel
theorem d_Mo_callsNothing_179 : decode prog_14_method_24_code 179 = .ok (.ireturn, 1) := by decide +kernel
theorem d_Mo_plainRules_0 : decode prog_14_method_25_code 0 = .ok (.aload_n 0, 1) := by decide +kernel
theorem d_Mo_plainRules_1 : decode prog_14_method_25_code 1 = .ok (.iload_n 1, 1) := by decide +kernel
theorem d_Mo_plainRules_2 : decode prog_14_method_25_code 2 = .ok (.iconst 0, 1) := by decide +kernel
theorem d_Mo_plainRules_3 : decode prog_14_method_25_code 3 = .ok (.invokevirtual 69, 3) := by decide +kernel
theorem d_Mo_plainRules_6 : decode prog_14_method_25_code 6 = .ok (.iconst 1, 1) := by decide +kernel
theorem d_Mo_plainRules_7 : decode prog_14_method_25_code 7 = .ok (.if_icmp .lt 14, 3) := by decide +kernel
theorem d_Mo_plainRules_10 : decode prog_14_method_25_code 10 = .ok (.aload_n 0, 1) := by decide +kernel
theorem d_Mo_plainRules_11 : decode prog_14_method_25_code 11 = .ok (.iload_n 1, 1) := by decide +kernel
theorem d_Mo_plainRules_12 : decode prog_14_method_25_code 12 = .ok (.iconst 0, 1) := by decide +kernel
theorem d_Mo_plainRules_13 : decode prog_14_method_25_code 13 = .ok (.invokevirtual 69, 3) := by decide +kernel
theorem d_Mo_plainRules_16 : decode prog_14_method_25_code 16 = .ok (.bipush 9, 2) := by decide +kernel
theorem d_Mo_plainRules_18 : decode prog_14_method_25_code 18 = .ok (.if_icmp .le 5, 3) := by decide +kernel
theorem d_Mo_plainRules_21 : decode prog_14_method_25_code 21 = .ok (.iconst 1, 1) := by decide +kernel
theorem d_Mo_plainRules_22 : decode prog_14_method_25_code 22 = .ok (.ireturn, 1) := by decide +kernel
theorem d_Mo_plainRules_23 : decode prog_14_method_25_code 23 = .ok (.aload_n 0, 1) := by decide +kernel
theorem d_Mo_plainRules_24 : decode prog_14_method_25_code 24 = .ok (.iload_n 1, 1) := by decide +kernel
theorem d_Mo_plainRules_25 : decode prog_14_method_25_code 25 = .ok (.bipush 6, 2) := by decide +kernel
theorem d_Mo_plainRules_27 : decode prog_14_method_25_code 27 = .ok (.iconst 1, 1) := by decide +kernel
theorem d_Mo_plainRules_28 : decode prog_14_method_25_code 28 = .ok (.aload_n 0, 1) := by decide +kernel
theorem d_Mo_plainRules_29 : decode prog_14_method_25_code 29 = .ok (.iload_n 1, 1) := by decide +kernel
theorem d_Mo_plainRules_30 : decode prog_14_method_25_code 30 = .ok (.iconst 5, 1) := by decide +kernel
theorem d_Mo_plainRules_31 : decode prog_14_method_25_code 31 = .ok (.invokevirtual 69, 3) := by decide +kernel
theorem d_Mo_plainRules_34 : decode prog_14_method_25_code 34 = .ok (.invokevirtual 99, 3) := by decide +kernel
theorem d_Mo_plainRules_37 : decode prog_14_method_25_code 37 = .ok (.ifCond .ne 40, 3) := by decide +kernel
theorem d_Mo_plainRules_40 : decode prog_14_method_25_code 40 = .ok (.aload_n 0, 1) := by decide +kernel
theorem d_Mo_plainRules_41 : decode prog_14_method_25_code 41 = .ok (.iload_n 1, 1) := by decide +kernel
theorem d_Mo_plainRules_42 : decode prog_14_method_25_code 42 = .ok (.bipush 10, 2) := by decide +kernel
theorem d_Mo_plainRules_44 : decode prog_14_method_25_code 44 = .ok (.iconst 3, 1) := by decide +kernel
theorem d_Mo_plainRules_45 : decode prog_14_method_25_code 45 = .ok (.aload_n 0, 1) := by decide +kernel
theorem d_Mo_plainRules_46 : decode prog_14_method_25_code 46 = .ok (.iload_n 1, 1) := by decide +kernel
theorem d_Mo_plainRules_47 : decode prog_14_method_25_code 47 = .ok (.bipush 9, 2) := by decide +kernel
theorem d_Mo_plainRules_49 : decode prog_14_method_25_code 49 = .ok (.invokevirtual 69, 3) := by decide +kernel
theorem d_Mo_plainRules_52 : decode prog_14_method_25_code 52 = .ok (.invokevirtual 99, 3) := by decide +kernel
theorem d_Mo_plainRules_55 : decode prog_14_method_25_code 55 = .ok (.ifCond .ne 22, 3) := by decide +kernel
theorem d_Mo_plainRules_58 : decode prog_14_method_25_code 58 = .ok (.aload_n 0, 1) := by decide +kernel
theorem d_Mo_plainRules_59 : decode prog_14_method_25_code 59 = .ok (.iload_n 1, 1) := by decide +kernel
theorem d_Mo_plainRules_60 : decode prog_14_method_25_code 60 = .ok (.bipush 23, 2) := by decide +kernel
theorem d_Mo_plainRules_62 : decode prog_14_method_25_code 62 = .ok (.bipush 21, 2) := by decide +kernel
theorem d_Mo_plainRules_64 : decode prog_14_method_25_code 64 = .ok (.aload_n 0, 1) := by decide +kernel
theorem d_Mo_plainRules_65 : decode prog_14_method_25_code 65 = .ok (.iload_n 1, 1) := by decide +kernel
theorem d_Mo_plainRules_66 : decode prog_14_method_25_code 66 = .ok (.bipush 22, 2) := by decide +kernel
theorem d_Mo_plainRules_68 : decode prog_14_method_25_code 68 = .ok (.invokevirtual 69, 3) := by decide +kernel
theorem d_Mo_plainRules_71 : decode prog_14_method_25_code 71 = .ok (.invokevirtual 99, 3) := by decide +kernel
theorem d_Mo_plainRules_74 : decode prog_14_method_25_code 74 = .ok (.ifCond .eq 7, 3) := by decide +kernel
theorem d_Mo_plainRules_77 : decode prog_14_method_25_code 77 = .ok (.iconst 1, 1) := by decide +kernel
theorem d_Mo_plainRules_78 : decode prog_14_method_25_code 78 = .ok (.goto 4, 3) := by decide +kernel
theorem d_Mo_plainRules_81 : decode prog_14_method_25_code 81 = .ok (.iconst 0, 1) := by decide +kernel
theorem d_Mo_plainRules_82 : decode prog_14_method_25_code 82 = .ok (.istore_n 2, 1) := by decide +kernel
theorem d_Mo_plainRules_83 : decode prog_14_method_25_code 83 = .ok (.iload_n 2, 1) := by decide +kernel
theorem d_Mo_plainRules_84 : decode prog_14_method_25_code 84 = .ok (.ifCond .ne 11, 3) := by decide +kernel
theorem d_Mo_plainRules_87 : decode prog_14_method_25_code 87 = .ok (.aload_n 0, 1) := by decide +kernel
theorem d_Mo_plainRules_88 : decode prog_14_method_25_code 88 = .ok (.iload_n 1, 1) := by decide +kernel
theorem d_Mo_plainRules_89 : decode prog_14_method_25_code 89 = .ok (.invokevirtual 103, 3) := by decide +kernel
theorem d_Mo_plainRules_92 : decode prog_14_method_25_code 92 = .ok (.ifCond .eq 5, 3) := by decide +kernel
theorem d_Mo_plainRules_95 : decode prog_14_method_25_code 95 = .ok (.iconst 2, 1) := by decide +kernel
theorem d_Mo_plainRules_96 : decode prog_14_method_25_code 96 = .ok (.ireturn, 1) := by decide +kernel
theorem d_Mo_plainRules_97 : decode prog_14_method_25_code 97 = .ok (.aload_n 0, 1) := by decide +kernel
theorem d_Mo_plainRules_98 : decode prog_14_method_25_code 98 = .ok (.iload_n 1, 1) := by decide +kernel
theorem d_Mo_plainRules_99 : decode prog_14_method_25_code 99 = .ok (.invokevirtual 106, 3) := by decide +kernel
theorem d_Mo_plainRules_102 : decode prog_14_method_25_code 102 = .ok (.ifCond .eq 5, 3) := by decide +kernel
theorem d_Mo_plainRules_105 : decode prog_14_method_25_code 105 = .ok (.iconst 3, 1) := by decide +kernel
theorem d_Mo_plainRules_106 : decode prog_14_method_25_code 106 = .ok (.ireturn, 1) := by decide +kernel
theorem d_Mo_plainRules_107 : decode prog_14_method_25_code 107 = .ok (.aload_n 0, 1) := by decide +kernel
theorem d_Mo_plainRules_108 : decode prog_14_method_25_code 108 = .ok (.iload_n 1, 1) := by decide +kernel
theorem d_Mo_plainRules_109 : decode prog_14_method_25_code 109 = .ok (.iconst 2, 1) := by decide +kernel
theorem d_Mo_plainRules_110 : decode prog_14_method_25_code 110 = .ok (.invokevirtual 69, 3) := by decide +kernel
theorem d_Mo_plainRules_113 : decode prog_14_method_25_code 113 = .ok (.istore_n 3, 1) := by decide +kernel
theorem d_Mo_plainRules_114 : decode prog_14_method_25_code 114 = .ok (.iload_n 3, 1) := by decide +kernel
theorem d_Mo_plainRules_115 : decode prog_14_method_25_code 115 = .ok (.iconst (-1), 1) := by decide +kernel
theorem d_Mo_plainRules_116 : decode prog_14_method_25_code 116 = .ok (.if_icmp .eq 11, 3) := by decide +kernel
theorem d_Mo_plainRules_119 : decode prog_14_method_25_code 119 = .ok (.aload_n 0, 1) := by decide +kernel
theorem d_Mo_plainRules_120 : decode prog_14_method_25_code 120 = .ok (.iload_n 3, 1) := by decide +kernel
theorem d_Mo_plainRules_121 : decode prog_14_method_25_code 121 = .ok (.invokevirtual 77, 3) := by decide +kernel
theorem d_Mo_plainRules_124 : decode prog_14_method_25_code 124 = .ok (.ifCond .eq 11, 3) := by decide +kernel
theorem d_Mo_plainRules_127 : decode prog_14_method_25_code 127 = .ok (.aload_n 0, 1) := by decide +kernel
theorem d_Mo_plainRules_128 : decode prog_14_method_25_code 128 = .ok (.iload_n 1, 1) := by decide +kernel
theorem d_Mo_plainRules_129 : decode prog_14_method_25_code 129 = .ok (.invokevirtual 109, 3) := by decide +kernel
theorem d_Mo_plainRules_132 : decode prog_14_method_25_code 132 = .ok (.ifCond .eq 7, 3) := by decide +kernel
theorem d_Mo_plainRules_135 : decode prog_14_method_25_code 135 = .ok (.iconst 4, 1) := by decide +kernel
theorem d_Mo_plainRules_136 : decode prog_14_method_25_code 136 = .ok (.goto 4, 3) := by decide +kernel
theorem d_Mo_plainRules_139 : decode prog_14_method_25_code 139 = .ok (.iconst 0, 1) := by decide +kernel
theorem d_Mo_plainRules_140 : decode prog_14_method_25_code 140 = .ok (.ireturn, 1) := by decide +kernel
theorem d_Mo_otherInterfaces_0 : decode prog_14_method_26_code 0 = .ok (.aload_n 0, 1) := by decide +kernel
theorem d_Mo_otherInterfaces_1 : decode prog_14_method_26_code 1 = .ok (.iload_n 1, 1) := by decide +kernel
theorem d_Mo_otherInterfaces_2 : decode prog_14_method_26_code 2 = .ok (.iconst 5, 1) := by decide +kernel
theorem d_Mo_otherInterfaces_3 : decode prog_14_method_26_code 3 = .ok (.invokevirtual 69, 3) := by decide +kernel
theorem d_Mo_otherInterfaces_6 : decode prog_14_method_26_code 6 = .ok (.aload_n 0, 1) := by decide +kernel
theorem d_Mo_otherInterfaces_7 : decode prog_14_method_26_code 7 = .ok (.iload_n 2, 1) := by decide +kernel
theorem d_Mo_otherInterfaces_8 : decode prog_14_method_26_code 8 = .ok (.iconst 5, 1) := by decide +kernel
theorem d_Mo_otherInterfaces_9 : decode prog_14_method_26_code 9 = .ok (.invokevirtual 69, 3) := by decide +kernel
theorem d_Mo_otherInterfaces_12 : decode prog_14_method_26_code 12 = .ok (.if_icmp .eq 7, 3) := by decide +kernel
theorem d_Mo_otherInterfaces_15 : decode prog_14_method_26_code 15 = .ok (.iconst 1, 1) := by decide +kernel
theorem d_Mo_otherInterfaces_16 : decode prog_14_method_26_code 16 = .ok (.goto 4, 3) := by decide +kernel
theorem d_Mo_otherInterfaces_19 : decode prog_14_method_26_code 19 = .ok (.iconst 0, 1) := by decide +kernel
theorem d_Mo_otherInterfaces_20 : decode prog_14_method_26_code 20 = .ok (.istore_n 3, 1) := by decide +kernel
theorem d_Mo_otherInterfaces_21 : decode prog_14_method_26_code 21 = .ok (.iconst 0, 1) := by decide +kernel
theorem d_Mo_otherInterfaces_22 : decode prog_14_method_26_code 22 = .ok (.istore 4, 2) := by decide +kernel
theorem d_Mo_otherInterfaces_24 : decode prog_14_method_26_code 24 = .ok (.iload 4, 2) := by decide +kernel
theorem d_Mo_otherInterfaces_26 : decode prog_14_method_26_code 26 = .ok (.aload_n 0, 1) := by decide +kernel
theorem d_Mo_otherInterfaces_27 : decode prog_14_method_26_code 27 = .ok (.iload_n 1, 1) := by decide +kernel
theorem d_Mo_otherInterfaces_28 : decode prog_14_method_26_code 28 = .ok (.iconst 5, 1) := by decide +kernel
theorem d_Mo_otherInterfaces_29 : decode prog_14_method_26_code 29 = .ok (.invokevirtual 69, 3) := by decide +kernel
theorem d_Mo_otherInterfaces_32 : decode prog_14_method_26_code 32 = .ok (.if_icmp .ge 82, 3) := by decide +kernel
theorem d_Mo_otherInterfaces_35 : decode prog_14_method_26_code 35 = .ok (.iconst 0, 1) := by decide +kernel
theorem d_Mo_otherInterfaces_36 : decode prog_14_method_26_code 36 = .ok (.istore 5, 2) := by decide +kernel
theorem d_Mo_otherInterfaces_38 : decode prog_14_method_26_code 38 = .ok (.iconst 0, 1) := by decide +kernel
theorem d_Mo_otherInterfaces_39 : decode prog_14_method_26_code 39 = .ok (.istore 6, 2) := by decide +kernel
theorem d_Mo_otherInterfaces_41 : decode prog_14_method_26_code 41 = .ok (.iload 6, 2) := by decide +kernel
theorem d_Mo_otherInterfaces_43 : decode prog_14_method_26_code 43 = .ok (.aload_n 0, 1) := by decide +kernel
theorem d_Mo_otherInterfaces_44 : decode prog_14_method_26_code 44 = .ok (.iload_n 2, 1) := by decide +kernel
theorem d_Mo_otherInterfaces_45 : decode prog_14_method_26_code 45 = .ok (.iconst 5, 1) := by decide +kernel
theorem d_Mo_otherInterfaces_46 : decode prog_14_method_26_code 46 = .ok (.invokevirtual 69, 3) := by decide +kernel
theorem d_Mo_otherInterfaces_49 : decode prog_14_method_26_code 49 = .ok (.if_icmp .ge 44, 3) := by decide +kernel
theorem d_Mo_otherInterfaces_52 : decode prog_14_method_26_code 52 = .ok (.iload 5, 2) := by decide +kernel
theorem d_Mo_otherInterfaces_54 : decode prog_14_method_26_code 54 = .ok (.ifCond .ne 26, 3) := by decide +kernel
theorem d_Mo_otherInterfaces_57 : decode prog_14_method_26_code 57 = .ok (.aload_n 0, 1) := by decide +kernel
theorem d_Mo_otherInterfaces_58 : decode prog_14_method_26_code 58 = .ok (.iload_n 1, 1) := by decide +kernel
theorem d_Mo_otherInterfaces_59 : decode prog_14_method_26_code 59 = .ok (.bipush 6, 2) := by decide +kernel
theorem d_Mo_otherInterfaces_61 : decode prog_14_method_26_code 61 = .ok (.iload 4, 2) := by decide +kernel
theorem d_Mo_otherInterfaces_63 : decode prog_14_method_26_code 63 = .ok (.iadd, 1) := by decide +kernel
theorem d_Mo_otherInterfaces_64 : decode prog_14_method_26_code 64 = .ok (.invokevirtual 69, 3) := by decide +kernel
theorem d_Mo_otherInterfaces_67 : decode prog_14_method_26_code 67 = .ok (.aload_n 0, 1) := by decide +kernel
theorem d_Mo_otherInterfaces_68 : decode prog_14_method_26_code 68 = .ok (.iload_n 2, 1) := by decide +kernel
theorem d_Mo_otherInterfaces_69 : decode prog_14_method_26_code 69 = .ok (.bipush 6, 2) := by decide +kernel
theorem d_Mo_otherInterfaces_71 : decode prog_14_method_26_code 71 = .ok (.iload 6, 2) := by decide +kernel
theorem d_Mo_otherInterfaces_73 : decode prog_14_method_26_code 73 = .ok (.iadd, 1) := by decide +kernel
theorem d_Mo_otherInterfaces_74 : decode prog_14_method_26_code 74 = .ok (.invokevirtual 69, 3) := by decide +kernel
theorem d_Mo_otherInterfaces_77 : decode prog_14_method_26_code 77 = .ok (.if_icmp .ne 7, 3) := by decide +kernel
theorem d_Mo_otherInterfaces_80 : decode prog_14_method_26_code 80 = .ok (.iconst 1, 1) := by decide +kernel
theorem d_Mo_otherInterfaces_81 : decode prog_14_method_26_code 81 = .ok (.goto 4, 3) := by decide +kernel
theorem d_Mo_otherInterfaces_84 : decode prog_14_method_26_code 84 = .ok (.iconst 0, 1) := by decide +kernel
theorem d_Mo_otherInterfaces_85 : decode prog_14_method_26_code 85 = .ok (.istore 5, 2) := by decide +kernel
theorem d_Mo_otherInterfaces_87 : decode prog_14_method_26_code 87 = .ok (.iinc 6 1, 3) := by decide +kernel
theorem d_Mo_otherInterfaces_90 : decode prog_14_method_26_code 90 = .ok (.goto (-49), 3) := by decide +kernel
theorem d_Mo_otherInterfaces_93 : decode prog_14_method_26_code 93 = .ok (.iload_n 3, 1) := by decide +kernel
theorem d_Mo_otherInterfaces_94 : decode prog_14_method_26_code 94 = .ok (.ifCond .ne 8, 3) := by decide +kernel
theorem d_Mo_otherInterfaces_97 : decode prog_14_method_26_code 97 = .ok (.iload 5, 2) := by decide +kernel
theorem d_Mo_otherInterfaces_99 : decode prog_14_method_26_code 99 = .ok (.ifCond .ne 7, 3) := by decide +kernel
theorem d_Mo_otherInterfaces_102 : decode prog_14_method_26_code 102 = .ok (.iconst 1, 1) := by decide +kernel
theorem d_Mo_otherInterfaces_103 : decode prog_14_method_26_code 103 = .ok (.goto 4, 3) := by decide +kernel
theorem d_Mo_otherInterfaces_106 : decode prog_14_method_26_code 106 = .ok (.iconst 0, 1) := by decide +kernel
theorem d_Mo_otherInterfaces_107 : decode prog_14_method_26_code 107 = .ok (.istore_n 3, 1) := by decide +kernel
theorem d_Mo_otherInterfaces_108 : decode prog_14_method_26_code 108 = .ok (.iinc 4 1, 3) := by decide +kernel
theorem d_Mo_otherInterfaces_111 : decode prog_14_method_26_code 111 = .ok (.goto (-87), 3) := by decide +kernel
theorem d_Mo_otherInterfaces_114 : decode prog_14_method_26_code 114 = .ok (.iload_n 3, 1) := by decide +kernel
theorem d_Mo_otherInterfaces_115 : decode prog_14_method_26_code 115 = .ok (.ireturn, 1) := by decide +kernel
theorem d_Mo_otherFields_0 : decode prog_14_method_27_code 0 = .ok (.aload_n 0, 1) := by decide +kernel
theorem d_Mo_otherFields_1 : decode prog_14_method_27_code 1 = .ok (.iload_n 1, 1) := by decide +kernel
theorem d_Mo_otherFields_2 : decode prog_14_method_27_code 2 = .ok (.bipush 9, 2) := by decide +kernel
theorem d_Mo_otherFields_4 : decode prog_14_method_27_code 4 = .ok (.invokevirtual 69, 3) := by decide +kernel
theorem d_Mo_otherFields_7 : decode prog_14_method_27_code 7 = .ok (.aload_n 0, 1) := by decide +kernel
theorem d_Mo_otherFields_8 : decode prog_14_method_27_code 8 = .ok (.iload_n 2, 1) := by decide +kernel
theorem d_Mo_otherFields_9 : decode prog_14_method_27_code 9 = .ok (.bipush 9, 2) := by decide +kernel
theorem d_Mo_otherFields_11 : decode prog_14_method_27_code 11 = .ok (.invokevirtual 69, 3) := by decide +kernel
theorem d_Mo_otherFields_14 : decode prog_14_method_27_code 14 = .ok (.if_icmp .eq 7, 3) := by decide +kernel
theorem d_Mo_otherFields_17 : decode prog_14_method_27_code 17 = .ok (.iconst 1, 1) := by decide +kernel
theorem d_Mo_otherFields_18 : decode prog_14_method_27_code 18 = .ok (.goto 4, 3) := by decide +kernel
theorem d_Mo_otherFields_21 : decode prog_14_method_27_code 21 = .ok (.iconst 0, 1) := by decide +kernel
theorem d_Mo_otherFields_22 : decode prog_14_method_27_code 22 = .ok (.istore_n 3, 1) := by decide +kernel
theorem d_Mo_otherFields_23 : decode prog_14_method_27_code 23 = .ok (.iconst 0, 1) := by decide +kernel
theorem d_Mo_otherFields_24 : decode prog_14_method_27_code 24 = .ok (.istore 4, 2) := by decide +kernel
theorem d_Mo_otherFields_26 : decode prog_14_method_27_code 26 = .ok (.iload 4, 2) := by decide +kernel
theorem d_Mo_otherFields_28 : decode prog_14_method_27_code 28 = .ok (.iconst 3, 1) := by decide +kernel
theorem d_Mo_otherFields_29 : decode prog_14_method_27_code 29 = .ok (.aload_n 0, 1) := by decide +kernel
theorem d_Mo_otherFields_30 : decode prog_14_method_27_code 30 = .ok (.iload_n 1, 1) := by decide +kernel
theorem d_Mo_otherFields_31 : decode prog_14_method_27_code 31 = .ok (.bipush 9, 2) := by decide +kernel
theorem d_Mo_otherFields_33 : decode prog_14_method_27_code 33 = .ok (.invokevirtual 69, 3) := by decide +kernel
theorem d_Mo_otherFields_36 : decode prog_14_method_27_code 36 = .ok (.imul, 1) := by decide +kernel
theorem d_Mo_otherFields_37 : decode prog_14_method_27_code 37 = .ok (.if_icmp .ge 42, 3) := by decide +kernel
theorem d_Mo_otherFields_40 : decode prog_14_method_27_code 40 = .ok (.iload_n 3, 1) := by decide +kernel
theorem d_Mo_otherFields_41 : decode prog_14_method_27_code 41 = .ok (.ifCond .ne 38, 3) := by decide +kernel
theorem d_Mo_otherFields_44 : decode prog_14_method_27_code 44 = .ok (.aload_n 0, 1) := by decide +kernel
theorem d_Mo_otherFields_45 : decode prog_14_method_27_code 45 = .ok (.iload_n 1, 1) := by decide +kernel
theorem d_Mo_otherFields_46 : decode prog_14_method_27_code 46 = .ok (.bipush 10, 2) := by decide +kernel
theorem d_Mo_otherFields_48 : decode prog_14_method_27_code 48 = .ok (.iload 4, 2) := by decide +kernel
theorem d_Mo_otherFields_50 : decode prog_14_method_27_code 50 = .ok (.iadd, 1) := by decide +kernel
theorem d_Mo_otherFields_51 : decode prog_14_method_27_code 51 = .ok (.invokevirtual 69, 3) := by decide +kernel
theorem d_Mo_otherFields_54 : decode prog_14_method_27_code 54 = .ok (.aload_n 0, 1) := by decide +kernel
theorem d_Mo_otherFields_55 : decode prog_14_method_27_code 55 = .ok (.iload_n 2, 1) := by decide +kernel
theorem d_Mo_otherFields_56 : decode prog_14_method_27_code 56 = .ok (.bipush 10, 2) := by decide +kernel
theorem d_Mo_otherFields_58 : decode prog_14_method_27_code 58 = .ok (.iload 4, 2) := by decide +kernel
theorem d_Mo_otherFields_60 : decode prog_14_method_27_code 60 = .ok (.iadd, 1) := by decide +kernel
theorem d_Mo_otherFields_61 : decode prog_14_method_27_code 61 = .ok (.invokevirtual 69, 3) := by decide +kernel
theorem d_Mo_otherFields_64 : decode prog_14_method_27_code 64 = .ok (.if_icmp .eq 7, 3) := by decide +kernel
theorem d_Mo_otherFields_67 : decode prog_14_method_27_code 67 = .ok (.iconst 1, 1) := by decide +kernel
theorem d_Mo_otherFields_68 : decode prog_14_method_27_code 68 = .ok (.goto 4, 3) := by decide +kernel
theorem d_Mo_otherFields_71 : decode prog_14_method_27_code 71 = .ok (.iconst 0, 1) := by decide +kernel
theorem d_Mo_otherFields_72 : decode prog_14_method_27_code 72 = .ok (.istore_n 3, 1) := by decide +kernel
theorem d_Mo_otherFields_73 : decode prog_14_method_27_code 73 = .ok (.iinc 4 1, 3) := by decide +kernel
theorem d_Mo_otherFields_76 : decode prog_14_method_27_code 76 = .ok (.goto (-50), 3) := by decide +kernel
theorem d_Mo_otherFields_79 : decode prog_14_method_27_code 79 = .ok (.iload_n 3, 1) := by decide +kernel
theorem d_Mo_otherFields_80 : decode prog_14_method_27_code 80 = .ok (.ireturn, 1) := by decide +kernel
theorem d_Mo_moreMethods_0 : decode prog_14_method_28_code 0 = .ok (.iconst 0, 1) := by decide +kernel
theorem d_Mo_moreMethods_1 : decode prog_14_method_28_code 1 = .ok (.istore_n 3, 1) := by decide +kernel
theorem d_Mo_moreMethods_2 : decode prog_14_method_28_code 2 = .ok (.iconst 0, 1) := by decide +kernel
theorem d_Mo_moreMethods_3 : decode prog_14_method_28_code 3 = .ok (.istore 4, 2) := by decide +kernel
theorem d_Mo_moreMethods_5 : decode prog_14_method_28_code 5 = .ok (.iload 4, 2) := by decide +kernel
theorem d_Mo_moreMethods_7 : decode prog_14_method_28_code 7 = .ok (.aload_n 0, 1) := by decide +kernel
theorem d_Mo_moreMethods_8 : decode prog_14_method_28_code 8 = .ok (.iload_n 1, 1) := by decide +kernel
theorem d_Mo_moreMethods_9 : decode prog_14_method_28_code 9 = .ok (.bipush 22, 2) := by decide +kernel
theorem d_Mo_moreMethods_11 : decode prog_14_method_28_code 11 = .ok (.invokevirtual 69, 3) := by decide +kernel
theorem d_Mo_moreMethods_14 : decode prog_14_method_28_code 14 = .ok (.if_icmp .ge 38, 3) := by decide +kernel
theorem d_Mo_moreMethods_17 : decode prog_14_method_28_code 17 = .ok (.iload_n 3, 1) := by decide +kernel
theorem d_Mo_moreMethods_18 : decode prog_14_method_28_code 18 = .ok (.ifCond .ne 22, 3) := by decide +kernel
theorem d_Mo_moreMethods_21 : decode prog_14_method_28_code 21 = .ok (.aload_n 0, 1) := by decide +kernel
theorem d_Mo_moreMethods_22 : decode prog_14_method_28_code 22 = .ok (.iload_n 2, 1) := by decide +kernel
theorem d_Mo_moreMethods_23 : decode prog_14_method_28_code 23 = .ok (.aload_n 0, 1) := by decide +kernel
theorem d_Mo_moreMethods_24 : decode prog_14_method_28_code 24 = .ok (.iload_n 1, 1) := by decide +kernel
theorem d_Mo_moreMethods_25 : decode prog_14_method_28_code 25 = .ok (.iload 4, 2) := by decide +kernel
theorem d_Mo_moreMethods_27 : decode prog_14_method_28_code 27 = .ok (.invokestatic 85, 3) := by decide +kernel
theorem d_Mo_moreMethods_30 : decode prog_14_method_28_code 30 = .ok (.invokevirtual 69, 3) := by decide +kernel
theorem d_Mo_moreMethods_33 : decode prog_14_method_28_code 33 = .ok (.invokevirtual 89, 3) := by decide +kernel
theorem d_Mo_moreMethods_36 : decode prog_14_method_28_code 36 = .ok (.iconst (-1), 1) := by decide +kernel
theorem d_Mo_moreMethods_37 : decode prog_14_method_28_code 37 = .ok (.if_icmp .ne 7, 3) := by decide +kernel
theorem d_Mo_moreMethods_40 : decode prog_14_method_28_code 40 = .ok (.iconst 1, 1) := by decide +kernel
theorem d_Mo_moreMethods_41 : decode prog_14_method_28_code 41 = .ok (.goto 4, 3) := by decide +kernel
theorem d_Mo_moreMethods_44 : decode prog_14_method_28_code 44 = .ok (.iconst 0, 1) := by decide +kernel
theorem d_Mo_moreMethods_45 : decode prog_14_method_28_code 45 = .ok (.istore_n 3, 1) := by decide +kernel
theorem d_Mo_moreMethods_46 : decode prog_14_method_28_code 46 = .ok (.iinc 4 1, 3) := by decide +kernel
theorem d_Mo_moreMethods_49 : decode prog_14_method_28_code 49 = .ok (.goto (-44), 3) := by decide +kernel
theorem d_Mo_moreMethods_52 : decode prog_14_method_28_code 52 = .ok (.iload_n 3, 1) := by decide +kernel
theorem d_Mo_moreMethods_53 : decode prog_14_method_28_code 53 = .ok (.ireturn, 1) := by decide +kernel
theorem d_Mo_otherMethodFlags_0 : decode prog_14_method_29_code 0 = .ok (.iconst 0, 1) := by decide +kernel
theorem d_Mo_otherMethodFlags_1 : decode prog_14_method_29_code 1 = .ok (.istore_n 3, 1) := by decide +kernel
theorem d_Mo_otherMethodFlags_2 : decode prog_14_method_29_code 2 = .ok (.iconst 0, 1) := by decide +kernel
theorem d_Mo_otherMethodFlags_3 : decode prog_14_method_29_code 3 = .ok (.istore 4, 2) := by decide +kernel
theorem d_Mo_otherMethodFlags_5 : decode prog_14_method_29_code 5 = .ok (.iload 4, 2) := by decide +kernel
theorem d_Mo_otherMethodFlags_7 : decode prog_14_method_29_code 7 = .ok (.aload_n 0, 1) := by decide +kernel
theorem d_Mo_otherMethodFlags_8 : decode prog_14_method_29_code 8 = .ok (.iload_n 1, 1) := by decide +kernel
theorem d_Mo_otherMethodFlags_9 : decode prog_14_method_29_code 9 = .ok (.bipush 22, 2) := by decide +kernel
theorem d_Mo_otherMethodFlags_11 : decode prog_14_method_29_code 11 = .ok (.invokevirtual 69, 3) := by decide +kernel
theorem d_Mo_otherMethodFlags_14 : decode prog_14_method_29_code 14 = .ok (.if_icmp .ge 67, 3) := by decide +kernel
theorem d_Mo_otherMethodFlags_17 : decode prog_14_method_29_code 17 = .ok (.iload 4, 2) := by decide +kernel
theorem d_Mo_otherMethodFlags_19 : decode prog_14_method_29_code 19 = .ok (.invokestatic 85, 3) := by decide +kernel
theorem d_Mo_otherMethodFlags_22 : decode prog_14_method_29_code 22 = .ok (.istore 5, 2) := by decide +kernel
theorem d_Mo_otherMethodFlags_24 : decode prog_14_method_29_code 24 = .ok (.aload_n 0, 1) := by decide +kernel
theorem d_Mo_otherMethodFlags_25 : decode prog_14_method_29_code 25 = .ok (.iload_n 2, 1) := by decide +kernel
theorem d_Mo_otherMethodFlags_26 : decode prog_14_method_29_code 26 = .ok (.aload_n 0, 1) := by decide +kernel
theorem d_Mo_otherMethodFlags_27 : decode prog_14_method_29_code 27 = .ok (.iload_n 1, 1) := by decide +kernel
theorem d_Mo_otherMethodFlags_28 : decode prog_14_method_29_code 28 = .ok (.iload 5, 2) := by decide +kernel
theorem d_Mo_otherMethodFlags_30 : decode prog_14_method_29_code 30 = .ok (.invokevirtual 69, 3) := by decide +kernel
theorem d_Mo_otherMethodFlags_33 : decode prog_14_method_29_code 33 = .ok (.invokevirtual 89, 3) := by decide +kernel
theorem d_Mo_otherMethodFlags_36 : decode prog_14_method_29_code 36 = .ok (.istore 6, 2) := by decide +kernel
theorem d_Mo_otherMethodFlags_38 : decode prog_14_method_29_code 38 = .ok (.iload_n 3, 1) := by decide +kernel
theorem d_Mo_otherMethodFlags_39 : decode prog_14_method_29_code 39 = .ok (.ifCond .ne 30, 3) := by decide +kernel
theorem d_Mo_otherMethodFlags_42 : decode prog_14_method_29_code 42 = .ok (.iload 6, 2) := by decide +kernel
theorem d_Mo_otherMethodFlags_44 : decode prog_14_method_29_code 44 = .ok (.iconst (-1), 1) := by decide +kernel
theorem d_Mo_otherMethodFlags_45 : decode prog_14_method_29_code 45 = .ok (.if_icmp .eq 28, 3) := by decide +kernel
theorem d_Mo_otherMethodFlags_48 : decode prog_14_method_29_code 48 = .ok (.aload_n 0, 1) := by decide +kernel
theorem d_Mo_otherMethodFlags_49 : decode prog_14_method_29_code 49 = .ok (.iload_n 1, 1) := by decide +kernel
theorem d_Mo_otherMethodFlags_50 : decode prog_14_method_29_code 50 = .ok (.iload 5, 2) := by decide +kernel
theorem d_Mo_otherMethodFlags_52 : decode prog_14_method_29_code 52 = .ok (.iconst 1, 1) := by decide +kernel
theorem d_Mo_otherMethodFlags_53 : decode prog_14_method_29_code 53 = .ok (.iadd, 1) := by decide +kernel
theorem d_Mo_otherMethodFlags_54 : decode prog_14_method_29_code 54 = .ok (.invokevirtual 69, 3) := by decide +kernel
theorem d_Mo_otherMethodFlags_57 : decode prog_14_method_29_code 57 = .ok (.aload_n 0, 1) := by decide +kernel
theorem d_Mo_otherMethodFlags_58 : decode prog_14_method_29_code 58 = .ok (.iload_n 2, 1) := by decide +kernel
theorem d_Mo_otherMethodFlags_59 : decode prog_14_method_29_code 59 = .ok (.iload 6, 2) := by decide +kernel
theorem d_Mo_otherMethodFlags_61 : decode prog_14_method_29_code 61 = .ok (.iconst 1, 1) := by decide +kernel
theorem d_Mo_otherMethodFlags_62 : decode prog_14_method_29_code 62 = .ok (.iadd, 1) := by decide +kernel
theorem d_Mo_otherMethodFlags_63 : decode prog_14_method_29_code 63 = .ok (.invokevirtual 69, 3) := by decide +kernel
theorem d_Mo_otherMethodFlags_66 : decode prog_14_method_29_code 66 = .ok (.if_icmp .eq 7, 3) := by decide +kernel
theorem d_Mo_otherMethodFlags_69 : decode prog_14_method_29_code 69 = .ok (.iconst 1, 1) := by decide +kernel
theorem d_Mo_otherMethodFlags_70 : decode prog_14_method_29_code 70 = .ok (.goto 4, 3) := by decide +kernel
theorem d_Mo_otherMethodFlags_73 : decode prog_14_method_29_code 73 = .ok (.iconst 0, 1) := by decide +kernel
theorem d_Mo_otherMethodFlags_74 : decode prog_14_method_29_code 74 = .ok (.istore_n 3, 1) := by decide +kernel
theorem d_Mo_otherMethodFlags_75 : decode prog_14_method_29_code 75 = .ok (.iinc 4 1, 3) := by decide +kernel
theorem d_Mo_otherMethodFlags_78 : decode prog_14_method_29_code 78 = .ok (.goto (-73), 3) := by decide +kernel
theorem d_Mo_otherMethodFlags_81 : decode prog_14_method_29_code 81 = .ok (.iload_n 3, 1) := by decide +kernel
theorem d_Mo_otherMethodFlags_82 : decode prog_14_method_29_code 82 = .ok (.ireturn, 1) := by decide +kernel
theorem d_Mo_rules_0 : decode prog_14_method_30_code 0 = .ok (.aload_n 0, 1) := by decide +kernel
theorem d_Mo_rules_1 : decode prog_14_method_30_code 1 = .ok (.iload_n 1, 1) := by decide +kernel
theorem d_Mo_rules_2 : decode prog_14_method_30_code 2 = .ok (.invokevirtual 112, 3) := by decide +kernel
theorem d_Mo_rules_5 : decode prog_14_method_30_code 5 = .ok (.istore_n 3, 1) := by decide +kernel
theorem d_Mo_rules_6 : decode prog_14_method_30_code 6 = .ok (.iload_n 3, 1) := by decide +kernel
theorem d_Mo_rules_7 : decode prog_14_method_30_code 7 = .ok (.ifCond .le 5, 3) := by decide +kernel
theorem d_Mo_rules_10 : decode prog_14_method_30_code 10 = .ok (.iload_n 3, 1) := by decide +kernel
theorem d_Mo_rules_11 : decode prog_14_method_30_code 11 = .ok (.ireturn, 1) := by decide +kernel
theorem d_Mo_rules_12 : decode prog_14_method_30_code 12 = .ok (.aload_n 0, 1) := by decide +kernel
theorem d_Mo_rules_13 : decode prog_14_method_30_code 13 = .ok (.getfield 17, 3) := by decide +kernel
theorem d_Mo_rules_16 : decode prog_14_method_30_code 16 = .ok (.iload_n 2, 1) := by decide +kernel
theorem d_Mo_rules_17 : decode prog_14_method_30_code 17 = .ok (.iaload, 1) := by decide +kernel
theorem d_Mo_rules_18 : decode prog_14_method_30_code 18 = .ok (.istore 4, 2) := by decide +kernel
theorem d_Mo_rules_20 : decode prog_14_method_30_code 20 = .ok (.aload_n 0, 1) := by decide +kernel
theorem d_Mo_rules_21 : decode prog_14_method_30_code 21 = .ok (.iload_n 1, 1) := by decide +kernel
theorem d_Mo_rules_22 : decode prog_14_method_30_code 22 = .ok (.iconst 1, 1) := by decide +kernel
theorem d_Mo_rules_23 : decode prog_14_method_30_code 23 = .ok (.invokevirtual 69, 3) := by decide +kernel
theorem d_Mo_rules_26 : decode prog_14_method_30_code 26 = .ok (.iload_n 2, 1) := by decide +kernel
theorem d_Mo_rules_27 : decode prog_14_method_30_code 27 = .ok (.if_icmp .eq 5, 3) := by decide +kernel
theorem d_Mo_rules_30 : decode prog_14_method_30_code 30 = .ok (.iconst 5, 1) := by decide +kernel
theorem d_Mo_rules_31 : decode prog_14_method_30_code 31 = .ok (.ireturn, 1) := by decide +kernel
theorem d_Mo_rules_32 : decode prog_14_method_30_code 32 = .ok (.aload_n 0, 1) := by decide +kernel
theorem d_Mo_rules_33 : decode prog_14_method_30_code 33 = .ok (.iload_n 1, 1) := by decide +kernel
theorem d_Mo_rules_34 : decode prog_14_method_30_code 34 = .ok (.iconst 2, 1) := by decide +kernel
theorem d_Mo_rules_35 : decode prog_14_method_30_code 35 = .ok (.invokevirtual 69, 3) := by decide +kernel
theorem d_Mo_rules_38 : decode prog_14_method_30_code 38 = .ok (.aload_n 0, 1) := by decide +kernel
theorem d_Mo_rules_39 : decode prog_14_method_30_code 39 = .ok (.iload 4, 2) := by decide +kernel
theorem d_Mo_rules_41 : decode prog_14_method_30_code 41 = .ok (.iconst 2, 1) := by decide +kernel
theorem d_Mo_rules_42 : decode prog_14_method_30_code 42 = .ok (.invokevirtual 69, 3) := by decide +kernel
theorem d_Mo_rules_45 : decode prog_14_method_30_code 45 = .ok (.if_icmp .ne 13, 3) := by decide +kernel
theorem d_Mo_rules_48 : decode prog_14_method_30_code 48 = .ok (.aload_n 0, 1) := by decide +kernel
theorem d_Mo_rules_49 : decode prog_14_method_30_code 49 = .ok (.iload_n 1, 1) := by decide +kernel
theorem d_Mo_rules_50 : decode prog_14_method_30_code 50 = .ok (.iload 4, 2) := by decide +kernel
theorem d_Mo_rules_52 : decode prog_14_method_30_code 52 = .ok (.invokevirtual 115, 3) := by decide +kernel
theorem d_Mo_rules_55 : decode prog_14_method_30_code 55 = .ok (.ifCond .eq 6, 3) := by decide +kernel
theorem d_Mo_rules_58 : decode prog_14_method_30_code 58 = .ok (.bipush 6, 2) := by decide +kernel
theorem d_Mo_rules_60 : decode prog_14_method_30_code 60 = .ok (.ireturn, 1) := by decide +kernel
theorem d_Mo_rules_61 : decode prog_14_method_30_code 61 = .ok (.aload_n 0, 1) := by decide +kernel
theorem d_Mo_rules_62 : decode prog_14_method_30_code 62 = .ok (.iload_n 1, 1) := by decide +kernel
theorem d_Mo_rules_63 : decode prog_14_method_30_code 63 = .ok (.iload 4, 2) := by decide +kernel
theorem d_Mo_rules_65 : decode prog_14_method_30_code 65 = .ok (.invokevirtual 119, 3) := by decide +kernel
theorem d_Mo_rules_68 : decode prog_14_method_30_code 68 = .ok (.ifCond .eq 6, 3) := by decide +kernel
theorem d_Mo_rules_71 : decode prog_14_method_30_code 71 = .ok (.bipush 7, 2) := by decide +kernel
theorem d_Mo_rules_73 : decode prog_14_method_30_code 73 = .ok (.ireturn, 1) := by decide +kernel
theorem d_Mo_rules_74 : decode prog_14_method_30_code 74 = .ok (.aload_n 0, 1) := by decide +kernel
theorem d_Mo_rules_75 : decode prog_14_method_30_code 75 = .ok (.iload_n 1, 1) := by decide +kernel
theorem d_Mo_rules_76 : decode prog_14_method_30_code 76 = .ok (.iload 4, 2) := by decide +kernel
theorem d_Mo_rules_78 : decode prog_14_method_30_code 78 = .ok (.invokevirtual 122, 3) := by decide +kernel
theorem d_Mo_rules_81 : decode prog_14_method_30_code 81 = .ok (.ifCond .eq 6, 3) := by decide +kernel
theorem d_Mo_rules_84 : decode prog_14_method_30_code 84 = .ok (.bipush 8, 2) := by decide +kernel
theorem d_Mo_rules_86 : decode prog_14_method_30_code 86 = .ok (.ireturn, 1) := by decide +kernel
theorem d_Mo_rules_87 : decode prog_14_method_30_code 87 = .ok (.aload_n 0, 1) := by decide +kernel
theorem d_Mo_rules_88 : decode prog_14_method_30_code 88 = .ok (.iload 4, 2) := by decide +kernel
theorem d_Mo_rules_90 : decode prog_14_method_30_code 90 = .ok (.iload_n 1, 1) := by decide +kernel
theorem d_Mo_rules_91 : decode prog_14_method_30_code 91 = .ok (.invokevirtual 122, 3) := by decide +kernel
theorem d_Mo_rules_94 : decode prog_14_method_30_code 94 = .ok (.ifCond .eq 6, 3) := by decide +kernel
theorem d_Mo_rules_97 : decode prog_14_method_30_code 97 = .ok (.bipush 9, 2) := by decide +kernel
theorem d_Mo_rules_99 : decode prog_14_method_30_code 99 = .ok (.ireturn, 1) := by decide +kernel
theorem d_Mo_rules_100 : decode prog_14_method_30_code 100 = .ok (.aload_n 0, 1) := by decide +kernel
theorem d_Mo_rules_101 : decode prog_14_method_30_code 101 = .ok (.iload_n 1, 1) := by decide +kernel
theorem d_Mo_rules_102 : decode prog_14_method_30_code 102 = .ok (.iconst 3, 1) := by decide +kernel
theorem d_Mo_rules_103 : decode prog_14_method_30_code 103 = .ok (.invokevirtual 69, 3) := by decide +kernel
theorem d_Mo_rules_106 : decode prog_14_method_30_code 106 = .ok (.aload_n 0, 1) := by decide +kernel
theorem d_Mo_rules_107 : decode prog_14_method_30_code 107 = .ok (.iload 4, 2) := by decide +kernel
theorem d_Mo_rules_109 : decode prog_14_method_30_code 109 = .ok (.iconst 3, 1) := by decide +kernel
theorem d_Mo_rules_110 : decode prog_14_method_30_code 110 = .ok (.invokevirtual 69, 3) := by decide +kernel
theorem d_Mo_rules_113 : decode prog_14_method_30_code 113 = .ok (.if_icmp .eq 6, 3) := by decide +kernel
theorem d_Mo_rules_116 : decode prog_14_method_30_code 116 = .ok (.bipush 10, 2) := by decide +kernel
theorem d_Mo_rules_118 : decode prog_14_method_30_code 118 = .ok (.ireturn, 1) := by decide +kernel
theorem d_Mo_rules_119 : decode prog_14_method_30_code 119 = .ok (.aload_n 0, 1) := by decide +kernel
theorem d_Mo_rules_120 : decode prog_14_method_30_code 120 = .ok (.iload_n 1, 1) := by decide +kernel
theorem d_Mo_rules_121 : decode prog_14_method_30_code 121 = .ok (.iload 4, 2) := by decide +kernel
theorem d_Mo_rules_123 : decode prog_14_method_30_code 123 = .ok (.invokevirtual 125, 3) := by decide +kernel
theorem d_Mo_rules_126 : decode prog_14_method_30_code 126 = .ok (.ifCond .eq 6, 3) := by decide +kernel
theorem d_Mo_rules_129 : decode prog_14_method_30_code 129 = .ok (.bipush 11, 2) := by decide +kernel
theorem d_Mo_rules_131 : decode prog_14_method_30_code 131 = .ok (.ireturn, 1) := by decide +kernel
theorem d_Mo_rules_132 : decode prog_14_method_30_code 132 = .ok (.aload_n 0, 1) := by decide +kernel
theorem d_Mo_rules_133 : decode prog_14_method_30_code 133 = .ok (.iload_n 1, 1) := by decide +kernel
theorem d_Mo_rules_134 : decode prog_14_method_30_code 134 = .ok (.iconst 4, 1) := by decide +kernel
theorem d_Mo_rules_135 : decode prog_14_method_30_code 135 = .ok (.invokevirtual 69, 3) := by decide +kernel
theorem d_Mo_rules_138 : decode prog_14_method_30_code 138 = .ok (.aload_n 0, 1) := by decide +kernel
theorem d_Mo_rules_139 : decode prog_14_method_30_code 139 = .ok (.iload 4, 2) := by decide +kernel
theorem d_Mo_rules_141 : decode prog_14_method_30_code 141 = .ok (.iconst 4, 1) := by decide +kernel
theorem d_Mo_rules_142 : decode prog_14_method_30_code 142 = .ok (.invokevirtual 69, 3) := by decide +kernel
theorem d_Mo_rules_145 : decode prog_14_method_30_code 145 = .ok (.if_icmp .eq 8, 3) := by decide +kernel
theorem d_Mo_rules_148 : decode prog_14_method_30_code 148 = .ok (.bipush 12, 2) := by decide +kernel
theorem d_Mo_rules_150 : decode prog_14_method_30_code 150 = .ok (.goto 4, 3) := by decide +kernel
theorem d_Mo_rules_153 : decode prog_14_method_30_code 153 = .ok (.iconst 0, 1) := by decide +kernel
theorem d_Mo_rules_154 : decode prog_14_method_30_code 154 = .ok (.ireturn, 1) := by decide +kernel
theorem d_Mo_inFrames_0 : decode prog_14_method_31_code 0 = .ok (.iconst 0, 1) := by decide +kernel
theorem d_Mo_inFrames_1 : decode prog_14_method_31_code 1 = .ok (.istore_n 2, 1) := by decide +kernel
theorem d_Mo_inFrames_2 : decode prog_14_method_31_code 2 = .ok (.iconst 0, 1) := by decide +kernel
theorem d_Mo_inFrames_3 : decode prog_14_method_31_code 3 = .ok (.istore_n 3, 1) := by decide +kernel
theorem d_Mo_inFrames_4 : decode prog_14_method_31_code 4 = .ok (.iload_n 3, 1) := by decide +kernel
theorem d_Mo_inFrames_5 : decode prog_14_method_31_code 5 = .ok (.iconst 3, 1) := by decide +kernel
theorem d_Mo_inFrames_6 : decode prog_14_method_31_code 6 = .ok (.if_icmp .ge 54, 3) := by decide +kernel
theorem d_Mo_inFrames_9 : decode prog_14_method_31_code 9 = .ok (.iconst 0, 1) := by decide +kernel
theorem d_Mo_inFrames_10 : decode prog_14_method_31_code 10 = .ok (.istore 4, 2) := by decide +kernel
theorem d_Mo_inFrames_12 : decode prog_14_method_31_code 12 = .ok (.iload 4, 2) := by decide +kernel
theorem d_Mo_inFrames_14 : decode prog_14_method_31_code 14 = .ok (.aload_n 0, 1) := by decide +kernel
theorem d_Mo_inFrames_15 : decode prog_14_method_31_code 15 = .ok (.getfield 48, 3) := by decide +kernel
theorem d_Mo_inFrames_18 : decode prog_14_method_31_code 18 = .ok (.iload_n 3, 1) := by decide +kernel
theorem d_Mo_inFrames_19 : decode prog_14_method_31_code 19 = .ok (.iaload, 1) := by decide +kernel
theorem d_Mo_inFrames_20 : decode prog_14_method_31_code 20 = .ok (.if_icmp .ge 34, 3) := by decide +kernel
theorem d_Mo_inFrames_23 : decode prog_14_method_31_code 23 = .ok (.iload_n 2, 1) := by decide +kernel
theorem d_Mo_inFrames_24 : decode prog_14_method_31_code 24 = .ok (.ifCond .ne 18, 3) := by decide +kernel
theorem d_Mo_inFrames_27 : decode prog_14_method_31_code 27 = .ok (.aload_n 0, 1) := by decide +kernel
theorem d_Mo_inFrames_28 : decode prog_14_method_31_code 28 = .ok (.getfield 51, 3) := by decide +kernel
theorem d_Mo_inFrames_31 : decode prog_14_method_31_code 31 = .ok (.iconst 5, 1) := by decide +kernel
theorem d_Mo_inFrames_32 : decode prog_14_method_31_code 32 = .ok (.iload_n 3, 1) := by decide +kernel
theorem d_Mo_inFrames_33 : decode prog_14_method_31_code 33 = .ok (.imul, 1) := by decide +kernel
theorem d_Mo_inFrames_34 : decode prog_14_method_31_code 34 = .ok (.iload 4, 2) := by decide +kernel
theorem d_Mo_inFrames_36 : decode prog_14_method_31_code 36 = .ok (.iadd, 1) := by decide +kernel
theorem d_Mo_inFrames_37 : decode prog_14_method_31_code 37 = .ok (.iaload, 1) := by decide +kernel
theorem d_Mo_inFrames_38 : decode prog_14_method_31_code 38 = .ok (.iload_n 1, 1) := by decide +kernel
theorem d_Mo_inFrames_39 : decode prog_14_method_31_code 39 = .ok (.if_icmp .ne 7, 3) := by decide +kernel
theorem d_Mo_inFrames_42 : decode prog_14_method_31_code 42 = .ok (.iconst 1, 1) := by decide +kernel
theorem d_Mo_inFrames_43 : decode prog_14_method_31_code 43 = .ok (.goto 4, 3) := by decide +kernel
theorem d_Mo_inFrames_46 : decode prog_14_method_31_code 46 = .ok (.iconst 0, 1) := by decide +kernel
theorem d_Mo_inFrames_47 : decode prog_14_method_31_code 47 = .ok (.istore_n 2, 1) := by decide +kernel
theorem d_Mo_inFrames_48 : decode prog_14_method_31_code 48 = .ok (.iinc 4 1, 3) := by decide +kernel
theorem d_Mo_inFrames_51 : decode prog_14_method_31_code 51 = .ok (.goto (-39), 3) := by decide +kernel
theorem d_Mo_inFrames_54 : decode prog_14_method_31_code 54 = .ok (.iinc 3 1, 3) := by decide +kernel
theorem d_Mo_inFrames_57 : decode prog_14_method_31_code 57 = .ok (.goto (-53), 3) := by decide +kernel
theorem d_Mo_inFrames_60 : decode prog_14_method_31_code 60 = .ok (.iload_n 2, 1) := by decide +kernel
theorem d_Mo_inFrames_61 : decode prog_14_method_31_code 61 = .ok (.ireturn, 1) := by decide +kernel
theorem d_Mo_inUse_0 : decode prog_14_method_32_code 0 = .ok (.aload_n 0, 1) := by decide +kernel
theorem d_Mo_inUse_1 : decode prog_14_method_32_code 1 = .ok (.iload_n 1, 1) := by decide +kernel
theorem d_Mo_inUse_2 : decode prog_14_method_32_code 2 = .ok (.invokevirtual 128, 3) := by decide +kernel
theorem d_Mo_inUse_5 : decode prog_14_method_32_code 5 = .ok (.istore_n 2, 1) := by decide +kernel
theorem d_Mo_inUse_6 : decode prog_14_method_32_code 6 = .ok (.iconst 0, 1) := by decide +kernel
theorem d_Mo_inUse_7 : decode prog_14_method_32_code 7 = .ok (.istore_n 3, 1) := by decide +kernel
theorem d_Mo_inUse_8 : decode prog_14_method_32_code 8 = .ok (.iload_n 3, 1) := by decide +kernel
theorem d_Mo_inUse_9 : decode prog_14_method_32_code 9 = .ok (.bipush 6, 2) := by decide +kernel
theorem d_Mo_inUse_11 : decode prog_14_method_32_code 11 = .ok (.if_icmp .ge 29, 3) := by decide +kernel
theorem d_Mo_inUse_14 : decode prog_14_method_32_code 14 = .ok (.iload_n 2, 1) := by decide +kernel
theorem d_Mo_inUse_15 : decode prog_14_method_32_code 15 = .ok (.ifCond .ne 13, 3) := by decide +kernel
theorem d_Mo_inUse_18 : decode prog_14_method_32_code 18 = .ok (.aload_n 0, 1) := by decide +kernel
theorem d_Mo_inUse_19 : decode prog_14_method_32_code 19 = .ok (.getfield 17, 3) := by decide +kernel
theorem d_Mo_inUse_22 : decode prog_14_method_32_code 22 = .ok (.iload_n 3, 1) := by decide +kernel
theorem d_Mo_inUse_23 : decode prog_14_method_32_code 23 = .ok (.iaload, 1) := by decide +kernel
theorem d_Mo_inUse_24 : decode prog_14_method_32_code 24 = .ok (.iload_n 1, 1) := by decide +kernel
theorem d_Mo_inUse_25 : decode prog_14_method_32_code 25 = .ok (.if_icmp .ne 7, 3) := by decide +kernel
theorem d_Mo_inUse_28 : decode prog_14_method_32_code 28 = .ok (.iconst 1, 1) := by decide +kernel
theorem d_Mo_inUse_29 : decode prog_14_method_32_code 29 = .ok (.goto 4, 3) := by decide +kernel
theorem d_Mo_inUse_32 : decode prog_14_method_32_code 32 = .ok (.iconst 0, 1) := by decide +kernel
theorem d_Mo_inUse_33 : decode prog_14_method_32_code 33 = .ok (.istore_n 2, 1) := by decide +kernel
theorem d_Mo_inUse_34 : decode prog_14_method_32_code 34 = .ok (.iinc 3 1, 3) := by decide +kernel
theorem d_Mo_inUse_37 : decode prog_14_method_32_code 37 = .ok (.goto (-29), 3) := by decide +kernel
theorem d_Mo_inUse_40 : decode prog_14_method_32_code 40 = .ok (.iload_n 2, 1) := by decide +kernel
theorem d_Mo_inUse_41 : decode prog_14_method_32_code 41 = .ok (.ireturn, 1) := by decide +kernel
theorem d_Mo_renew_0 : decode prog_14_method_33_code 0 = .ok (.bipush 17, 2) := by decide +kernel
theorem d_Mo_renew_2 : decode prog_14_method_33_code 2 = .ok (.istore_n 3, 1) := by decide +kernel
theorem d_Mo_renew_3 : decode prog_14_method_33_code 3 = .ok (.iload_n 3, 1) := by decide +kernel
theorem d_Mo_renew_4 : decode prog_14_method_33_code 4 = .ok (.bipush 40, 2) := by decide +kernel
theorem d_Mo_renew_6 : decode prog_14_method_33_code 6 = .ok (.if_icmp .ge 17, 3) := by decide +kernel
theorem d_Mo_renew_9 : decode prog_14_method_33_code 9 = .ok (.aload_n 0, 1) := by decide +kernel
theorem d_Mo_renew_10 : decode prog_14_method_33_code 10 = .ok (.iload_n 3, 1) := by decide +kernel
theorem d_Mo_renew_11 : decode prog_14_method_33_code 11 = .ok (.invokevirtual 131, 3) := by decide +kernel
theorem d_Mo_renew_14 : decode prog_14_method_33_code 14 = .ok (.ifCond .eq 9, 3) := by decide +kernel
theorem d_Mo_renew_17 : decode prog_14_method_33_code 17 = .ok (.iinc 3 1, 3) := by decide +kernel
theorem d_Mo_renew_20 : decode prog_14_method_33_code 20 = .ok (.goto (-17), 3) := by decide +kernel
theorem d_Mo_renew_23 : decode prog_14_method_33_code 23 = .ok (.aload_n 0, 1) := by decide +kernel
theorem d_Mo_renew_24 : decode prog_14_method_33_code 24 = .ok (.iload_n 2, 1) := by decide +kernel
theorem d_Mo_renew_25 : decode prog_14_method_33_code 25 = .ok (.iload_n 3, 1) := by decide +kernel
theorem d_Mo_renew_26 : decode prog_14_method_33_code 26 = .ok (.invokevirtual 81, 3) := by decide +kernel
theorem d_Mo_renew_29 : decode prog_14_method_33_code 29 = .ok (.aload_n 0, 1) := by decide +kernel
theorem d_Mo_renew_30 : decode prog_14_method_33_code 30 = .ok (.getfield 17, 3) := by decide +kernel
theorem d_Mo_renew_33 : decode prog_14_method_33_code 33 = .ok (.iload_n 1, 1) := by decide +kernel
theorem d_Mo_renew_34 : decode prog_14_method_33_code 34 = .ok (.iload_n 3, 1) := by decide +kernel
theorem d_Mo_renew_35 : decode prog_14_method_33_code 35 = .ok (.iastore, 1) := by decide +kernel
theorem d_Mo_renew_36 : decode prog_14_method_33_code 36 = .ok (.aload_n 0, 1) := by decide +kernel
theorem d_Mo_renew_37 : decode prog_14_method_33_code 37 = .ok (.getfield 20, 3) := by decide +kernel
theorem d_Mo_renew_40 : decode prog_14_method_33_code 40 = .ok (.iload_n 1, 1) := by decide +kernel
theorem d_Mo_renew_41 : decode prog_14_method_33_code 41 = .ok (.dup2, 1) := by decide +kernel
theorem d_Mo_renew_42 : decode prog_14_method_33_code 42 = .ok (.iaload, 1) := by decide +kernel
theorem d_Mo_renew_43 : decode prog_14_method_33_code 43 = .ok (.iconst 1, 1) := by decide +kernel
theorem d_Mo_renew_44 : decode prog_14_method_33_code 44 = .ok (.iadd, 1) := by decide +kernel
theorem d_Mo_renew_45 : decode prog_14_method_33_code 45 = .ok (.iastore, 1) := by decide +kernel
theorem d_Mo_renew_46 : decode prog_14_method_33_code 46 = .ok (.aload_n 0, 1) := by decide +kernel
theorem d_Mo_renew_47 : decode prog_14_method_33_code 47 = .ok (.getfield 23, 3) := by decide +kernel
theorem d_Mo_renew_50 : decode prog_14_method_33_code 50 = .ok (.iload_n 3, 1) := by decide +kernel
theorem d_Mo_renew_51 : decode prog_14_method_33_code 51 = .ok (.aload_n 0, 1) := by decide +kernel
theorem d_Mo_renew_52 : decode prog_14_method_33_code 52 = .ok (.getfield 20, 3) := by decide +kernel
theorem d_Mo_renew_55 : decode prog_14_method_33_code 55 = .ok (.iload_n 1, 1) := by decide +kernel
theorem d_Mo_renew_56 : decode prog_14_method_33_code 56 = .ok (.iaload, 1) := by decide +kernel
theorem d_Mo_renew_57 : decode prog_14_method_33_code 57 = .ok (.iastore, 1) := by decide +kernel
theorem d_Mo_renew_58 : decode prog_14_method_33_code 58 = .ok (.aload_n 0, 1) := by decide +kernel
theorem d_Mo_renew_59 : decode prog_14_method_33_code 59 = .ok (.getfield 26, 3) := by decide +kernel
theorem d_Mo_renew_62 : decode prog_14_method_33_code 62 = .ok (.iload_n 3, 1) := by decide +kernel
theorem d_Mo_renew_63 : decode prog_14_method_33_code 63 = .ok (.iload_n 1, 1) := by decide +kernel
theorem d_Mo_renew_64 : decode prog_14_method_33_code 64 = .ok (.iastore, 1) := by decide +kernel
theorem d_Mo_renew_65 : decode prog_14_method_33_code 65 = .ok (.return_, 1) := by decide +kernel
theorem d_Mo_load_0 : decode prog_14_method_34_code 0 = .ok (.aload_n 0, 1) := by decide +kernel
theorem d_Mo_load_1 : decode prog_14_method_34_code 1 = .ok (.iconst 0, 1) := by decide +kernel
theorem d_Mo_load_2 : decode prog_14_method_34_code 2 = .ok (.bipush 16, 2) := by decide +kernel
theorem d_Mo_load_4 : decode prog_14_method_34_code 4 = .ok (.invokevirtual 81, 3) := by decide +kernel
theorem d_Mo_load_7 : decode prog_14_method_34_code 7 = .ok (.aload_n 0, 1) := by decide +kernel
theorem d_Mo_load_8 : decode prog_14_method_34_code 8 = .ok (.iconst 0, 1) := by decide +kernel
theorem d_Mo_load_9 : decode prog_14_method_34_code 9 = .ok (.iconst 1, 1) := by decide +kernel
theorem d_Mo_load_10 : decode prog_14_method_34_code 10 = .ok (.invokevirtual 69, 3) := by decide +kernel
theorem d_Mo_load_13 : decode prog_14_method_34_code 13 = .ok (.istore_n 1, 1) := by decide +kernel
theorem d_Mo_load_14 : decode prog_14_method_34_code 14 = .ok (.aload_n 0, 1) := by decide +kernel
theorem d_Mo_load_15 : decode prog_14_method_34_code 15 = .ok (.bipush 16, 2) := by decide +kernel
theorem d_Mo_load_17 : decode prog_14_method_34_code 17 = .ok (.bipush 13, 2) := by decide +kernel
theorem d_Mo_load_19 : decode prog_14_method_34_code 19 = .ok (.iload_n 1, 1) := by decide +kernel
theorem d_Mo_load_20 : decode prog_14_method_34_code 20 = .ok (.invokevirtual 134, 3) := by decide +kernel
theorem d_Mo_load_23 : decode prog_14_method_34_code 23 = .ok (.aload_n 0, 1) := by decide +kernel
theorem d_Mo_load_24 : decode prog_14_method_34_code 24 = .ok (.bipush 16, 2) := by decide +kernel
theorem d_Mo_load_26 : decode prog_14_method_34_code 26 = .ok (.invokevirtual 112, 3) := by decide +kernel
theorem d_Mo_load_29 : decode prog_14_method_34_code 29 = .ok (.istore_n 2, 1) := by decide +kernel
theorem d_Mo_load_30 : decode prog_14_method_34_code 30 = .ok (.iload_n 2, 1) := by decide +kernel
theorem d_Mo_load_31 : decode prog_14_method_34_code 31 = .ok (.ifCond .le 5, 3) := by decide +kernel
theorem d_Mo_load_34 : decode prog_14_method_34_code 34 = .ok (.iload_n 2, 1) := by decide +kernel
theorem d_Mo_load_35 : decode prog_14_method_34_code 35 = .ok (.ireturn, 1) := by decide +kernel
theorem d_Mo_load_36 : decode prog_14_method_34_code 36 = .ok (.iload_n 1, 1) := by decide +kernel
theorem d_Mo_load_37 : decode prog_14_method_34_code 37 = .ok (.ifCond .lt 8, 3) := by decide +kernel
theorem d_Mo_load_40 : decode prog_14_method_34_code 40 = .ok (.iload_n 1, 1) := by decide +kernel
theorem d_Mo_load_41 : decode prog_14_method_34_code 41 = .ok (.iconst 5, 1) := by decide +kernel
theorem d_Mo_load_42 : decode prog_14_method_34_code 42 = .ok (.if_icmp .le 5, 3) := by decide +kernel
theorem d_Mo_load_45 : decode prog_14_method_34_code 45 = .ok (.iconst 5, 1) := by decide +kernel
theorem d_Mo_load_46 : decode prog_14_method_34_code 46 = .ok (.ireturn, 1) := by decide +kernel
theorem d_Mo_load_47 : decode prog_14_method_34_code 47 = .ok (.aload_n 0, 1) := by decide +kernel
theorem d_Mo_load_48 : decode prog_14_method_34_code 48 = .ok (.iload_n 1, 1) := by decide +kernel
theorem d_Mo_load_49 : decode prog_14_method_34_code 49 = .ok (.invokevirtual 77, 3) := by decide +kernel
theorem d_Mo_load_52 : decode prog_14_method_34_code 52 = .ok (.ifCond .eq 6, 3) := by decide +kernel
theorem d_Mo_load_55 : decode prog_14_method_34_code 55 = .ok (.bipush 13, 2) := by decide +kernel
theorem d_Mo_load_57 : decode prog_14_method_34_code 57 = .ok (.ireturn, 1) := by decide +kernel
theorem d_Mo_load_58 : decode prog_14_method_34_code 58 = .ok (.aload_n 0, 1) := by decide +kernel
theorem d_Mo_load_59 : decode prog_14_method_34_code 59 = .ok (.iload_n 1, 1) := by decide +kernel
theorem d_Mo_load_60 : decode prog_14_method_34_code 60 = .ok (.bipush 16, 2) := by decide +kernel
theorem d_Mo_load_62 : decode prog_14_method_34_code 62 = .ok (.invokevirtual 137, 3) := by decide +kernel
theorem d_Mo_load_65 : decode prog_14_method_34_code 65 = .ok (.aload_n 0, 1) := by decide +kernel
theorem d_Mo_load_66 : decode prog_14_method_34_code 66 = .ok (.bipush 13, 2) := by decide +kernel
theorem d_Mo_load_68 : decode prog_14_method_34_code 68 = .ok (.iconst 1, 1) := by decide +kernel
theorem d_Mo_load_69 : decode prog_14_method_34_code 69 = .ok (.iload_n 1, 1) := by decide +kernel
theorem d_Mo_load_70 : decode prog_14_method_34_code 70 = .ok (.iadd, 1) := by decide +kernel
theorem d_Mo_load_71 : decode prog_14_method_34_code 71 = .ok (.invokevirtual 81, 3) := by decide +kernel
theorem d_Mo_load_74 : decode prog_14_method_34_code 74 = .ok (.iconst 0, 1) := by decide +kernel
theorem d_Mo_load_75 : decode prog_14_method_34_code 75 = .ok (.ireturn, 1) := by decide +kernel
theorem d_Mo_queue_0 : decode prog_14_method_35_code 0 = .ok (.aload_n 0, 1) := by decide +kernel
theorem d_Mo_queue_1 : decode prog_14_method_35_code 1 = .ok (.iload_n 1, 1) := by decide +kernel
theorem d_Mo_queue_2 : decode prog_14_method_35_code 2 = .ok (.invokevirtual 77, 3) := by decide +kernel
theorem d_Mo_queue_5 : decode prog_14_method_35_code 5 = .ok (.ifCond .eq 11, 3) := by decide +kernel
theorem d_Mo_queue_8 : decode prog_14_method_35_code 8 = .ok (.aload_n 0, 1) := by decide +kernel
theorem d_Mo_queue_9 : decode prog_14_method_35_code 9 = .ok (.getfield 140, 3) := by decide +kernel
theorem d_Mo_queue_12 : decode prog_14_method_35_code 12 = .ok (.iconst 3, 1) := by decide +kernel
theorem d_Mo_queue_13 : decode prog_14_method_35_code 13 = .ok (.if_icmp .ne 5, 3) := by decide +kernel
theorem d_Mo_queue_16 : decode prog_14_method_35_code 16 = .ok (.iconst 0, 1) := by decide +kernel
theorem d_Mo_queue_17 : decode prog_14_method_35_code 17 = .ok (.ireturn, 1) := by decide +kernel
theorem d_Mo_queue_18 : decode prog_14_method_35_code 18 = .ok (.iconst 0, 1) := by decide +kernel
theorem d_Mo_queue_19 : decode prog_14_method_35_code 19 = .ok (.istore_n 2, 1) := by decide +kernel
theorem d_Mo_queue_20 : decode prog_14_method_35_code 20 = .ok (.iload_n 2, 1) := by decide +kernel
theorem d_Mo_queue_21 : decode prog_14_method_35_code 21 = .ok (.aload_n 0, 1) := by decide +kernel
theorem d_Mo_queue_22 : decode prog_14_method_35_code 22 = .ok (.getfield 140, 3) := by decide +kernel
theorem d_Mo_queue_25 : decode prog_14_method_35_code 25 = .ok (.if_icmp .ge 21, 3) := by decide +kernel
theorem d_Mo_queue_28 : decode prog_14_method_35_code 28 = .ok (.aload_n 0, 1) := by decide +kernel
theorem d_Mo_queue_29 : decode prog_14_method_35_code 29 = .ok (.getfield 45, 3) := by decide +kernel
theorem d_Mo_queue_32 : decode prog_14_method_35_code 32 = .ok (.iload_n 2, 1) := by decide +kernel
theorem d_Mo_queue_33 : decode prog_14_method_35_code 33 = .ok (.iaload, 1) := by decide +kernel
theorem d_Mo_queue_34 : decode prog_14_method_35_code 34 = .ok (.iload_n 1, 1) := by decide +kernel
theorem d_Mo_queue_35 : decode prog_14_method_35_code 35 = .ok (.if_icmp .ne 5, 3) := by decide +kernel
theorem d_Mo_queue_38 : decode prog_14_method_35_code 38 = .ok (.iconst 0, 1) := by decide +kernel
theorem d_Mo_queue_39 : decode prog_14_method_35_code 39 = .ok (.ireturn, 1) := by decide +kernel
theorem d_Mo_queue_40 : decode prog_14_method_35_code 40 = .ok (.iinc 2 1, 3) := by decide +kernel
theorem d_Mo_queue_43 : decode prog_14_method_35_code 43 = .ok (.goto (-23), 3) := by decide +kernel
theorem d_Mo_queue_46 : decode prog_14_method_35_code 46 = .ok (.aload_n 0, 1) := by decide +kernel
theorem d_Mo_queue_47 : decode prog_14_method_35_code 47 = .ok (.iconst 0, 1) := by decide +kernel
theorem d_Mo_queue_48 : decode prog_14_method_35_code 48 = .ok (.bipush 7, 2) := by decide +kernel
theorem d_Mo_queue_50 : decode prog_14_method_35_code 50 = .ok (.aload_n 0, 1) := by decide +kernel
theorem d_Mo_queue_51 : decode prog_14_method_35_code 51 = .ok (.getfield 140, 3) := by decide +kernel
theorem d_Mo_queue_54 : decode prog_14_method_35_code 54 = .ok (.iadd, 1) := by decide +kernel
theorem d_Mo_queue_55 : decode prog_14_method_35_code 55 = .ok (.invokevirtual 81, 3) := by decide +kernel
theorem d_Mo_queue_58 : decode prog_14_method_35_code 58 = .ok (.aload_n 0, 1) := by decide +kernel
theorem d_Mo_queue_59 : decode prog_14_method_35_code 59 = .ok (.getfield 45, 3) := by decide +kernel
theorem d_Mo_queue_62 : decode prog_14_method_35_code 62 = .ok (.aload_n 0, 1) := by decide +kernel
theorem d_Mo_queue_63 : decode prog_14_method_35_code 63 = .ok (.getfield 140, 3) := by decide +kernel
theorem d_Mo_queue_66 : decode prog_14_method_35_code 66 = .ok (.iload_n 1, 1) := by decide +kernel
theorem d_Mo_queue_67 : decode prog_14_method_35_code 67 = .ok (.iastore, 1) := by decide +kernel
theorem d_Mo_queue_68 : decode prog_14_method_35_code 68 = .ok (.aload_n 0, 1) := by decide +kernel
theorem d_Mo_queue_69 : decode prog_14_method_35_code 69 = .ok (.dup, 1) := by decide +kernel
theorem d_Mo_queue_70 : decode prog_14_method_35_code 70 = .ok (.getfield 140, 3) := by decide +kernel
theorem d_Mo_queue_73 : decode prog_14_method_35_code 73 = .ok (.iconst 1, 1) := by decide +kernel
theorem d_Mo_queue_74 : decode prog_14_method_35_code 74 = .ok (.iadd, 1) := by decide +kernel
theorem d_Mo_queue_75 : decode prog_14_method_35_code 75 = .ok (.putfield 140, 3) := by decide +kernel
theorem d_Mo_queue_78 : decode prog_14_method_35_code 78 = .ok (.iconst 1, 1) := by decide +kernel
theorem d_Mo_queue_79 : decode prog_14_method_35_code 79 = .ok (.ireturn, 1) := by decide +kernel
theorem d_Mo_swap_0 : decode prog_14_method_36_code 0 = .ok (.iconst 0, 1) := by decide +kernel
theorem d_Mo_swap_1 : decode prog_14_method_36_code 1 = .ok (.istore_n 1, 1) := by decide +kernel
theorem d_Mo_swap_2 : decode prog_14_method_36_code 2 = .ok (.iconst 0, 1) := by decide +kernel
theorem d_Mo_swap_3 : decode prog_14_method_36_code 3 = .ok (.istore_n 2, 1) := by decide +kernel
theorem d_Mo_swap_4 : decode prog_14_method_36_code 4 = .ok (.iload_n 2, 1) := by decide +kernel
theorem d_Mo_swap_5 : decode prog_14_method_36_code 5 = .ok (.aload_n 0, 1) := by decide +kernel
theorem d_Mo_swap_6 : decode prog_14_method_36_code 6 = .ok (.getfield 140, 3) := by decide +kernel
theorem d_Mo_swap_9 : decode prog_14_method_36_code 9 = .ok (.if_icmp .ge 78, 3) := by decide +kernel
theorem d_Mo_swap_12 : decode prog_14_method_36_code 12 = .ok (.iload_n 1, 1) := by decide +kernel
theorem d_Mo_swap_13 : decode prog_14_method_36_code 13 = .ok (.ifCond .ne 74, 3) := by decide +kernel
theorem d_Mo_swap_16 : decode prog_14_method_36_code 16 = .ok (.aload_n 0, 1) := by decide +kernel
theorem d_Mo_swap_17 : decode prog_14_method_36_code 17 = .ok (.bipush 7, 2) := by decide +kernel
theorem d_Mo_swap_19 : decode prog_14_method_36_code 19 = .ok (.iload_n 2, 1) := by decide +kernel
theorem d_Mo_swap_20 : decode prog_14_method_36_code 20 = .ok (.iadd, 1) := by decide +kernel
theorem d_Mo_swap_21 : decode prog_14_method_36_code 21 = .ok (.bipush 10, 2) := by decide +kernel
theorem d_Mo_swap_23 : decode prog_14_method_36_code 23 = .ok (.iload_n 2, 1) := by decide +kernel
theorem d_Mo_swap_24 : decode prog_14_method_36_code 24 = .ok (.iadd, 1) := by decide +kernel
theorem d_Mo_swap_25 : decode prog_14_method_36_code 25 = .ok (.invokevirtual 81, 3) := by decide +kernel
theorem d_Mo_swap_28 : decode prog_14_method_36_code 28 = .ok (.aload_n 0, 1) := by decide +kernel
theorem d_Mo_swap_29 : decode prog_14_method_36_code 29 = .ok (.bipush 10, 2) := by decide +kernel
theorem d_Mo_swap_31 : decode prog_14_method_36_code 31 = .ok (.iload_n 2, 1) := by decide +kernel
theorem d_Mo_swap_32 : decode prog_14_method_36_code 32 = .ok (.iadd, 1) := by decide +kernel
theorem d_Mo_swap_33 : decode prog_14_method_36_code 33 = .ok (.bipush 13, 2) := by decide +kernel
theorem d_Mo_swap_35 : decode prog_14_method_36_code 35 = .ok (.iload_n 2, 1) := by decide +kernel
theorem d_Mo_swap_36 : decode prog_14_method_36_code 36 = .ok (.iadd, 1) := by decide +kernel
theorem d_Mo_swap_37 : decode prog_14_method_36_code 37 = .ok (.aload_n 0, 1) := by decide +kernel
theorem d_Mo_swap_38 : decode prog_14_method_36_code 38 = .ok (.getfield 45, 3) := by decide +kernel
theorem d_Mo_swap_41 : decode prog_14_method_36_code 41 = .ok (.iload_n 2, 1) := by decide +kernel
theorem d_Mo_swap_42 : decode prog_14_method_36_code 42 = .ok (.iaload, 1) := by decide +kernel
theorem d_Mo_swap_43 : decode prog_14_method_36_code 43 = .ok (.invokevirtual 134, 3) := by decide +kernel
theorem d_Mo_swap_46 : decode prog_14_method_36_code 46 = .ok (.aload_n 0, 1) := by decide +kernel
theorem d_Mo_swap_47 : decode prog_14_method_36_code 47 = .ok (.bipush 10, 2) := by decide +kernel
theorem d_Mo_swap_49 : decode prog_14_method_36_code 49 = .ok (.iload_n 2, 1) := by decide +kernel
theorem d_Mo_swap_50 : decode prog_14_method_36_code 50 = .ok (.iadd, 1) := by decide +kernel
theorem d_Mo_swap_51 : decode prog_14_method_36_code 51 = .ok (.aload_n 0, 1) := by decide +kernel
theorem d_Mo_swap_52 : decode prog_14_method_36_code 52 = .ok (.getfield 45, 3) := by decide +kernel
theorem d_Mo_swap_55 : decode prog_14_method_36_code 55 = .ok (.iload_n 2, 1) := by decide +kernel
theorem d_Mo_swap_56 : decode prog_14_method_36_code 56 = .ok (.iaload, 1) := by decide +kernel
theorem d_Mo_swap_57 : decode prog_14_method_36_code 57 = .ok (.invokevirtual 143, 3) := by decide +kernel
theorem d_Mo_swap_60 : decode prog_14_method_36_code 60 = .ok (.istore_n 3, 1) := by decide +kernel
theorem d_Mo_swap_61 : decode prog_14_method_36_code 61 = .ok (.iload_n 3, 1) := by decide +kernel
theorem d_Mo_swap_62 : decode prog_14_method_36_code 62 = .ok (.ifCond .le 17, 3) := by decide +kernel
theorem d_Mo_swap_65 : decode prog_14_method_36_code 65 = .ok (.bipush 16, 2) := by decide +kernel
theorem d_Mo_swap_67 : decode prog_14_method_36_code 67 = .ok (.aload_n 0, 1) := by decide +kernel
theorem d_Mo_swap_68 : decode prog_14_method_36_code 68 = .ok (.getfield 45, 3) := by decide +kernel
theorem d_Mo_swap_71 : decode prog_14_method_36_code 71 = .ok (.iload_n 2, 1) := by decide +kernel
theorem d_Mo_swap_72 : decode prog_14_method_36_code 72 = .ok (.iaload, 1) := by decide +kernel
theorem d_Mo_swap_73 : decode prog_14_method_36_code 73 = .ok (.imul, 1) := by decide +kernel
theorem d_Mo_swap_74 : decode prog_14_method_36_code 74 = .ok (.iload_n 3, 1) := by decide +kernel
theorem d_Mo_swap_75 : decode prog_14_method_36_code 75 = .ok (.iadd, 1) := by decide +kernel
theorem d_Mo_swap_76 : decode prog_14_method_36_code 76 = .ok (.goto 4, 3) := by decide +kernel
theorem d_Mo_swap_79 : decode prog_14_method_36_code 79 = .ok (.iconst 0, 1) := by decide +kernel
theorem d_Mo_swap_80 : decode prog_14_method_36_code 80 = .ok (.istore_n 1, 1) := by decide +kernel
theorem d_Mo_swap_81 : decode prog_14_method_36_code 81 = .ok (.iinc 2 1, 3) := by decide +kernel
theorem d_Mo_swap_84 : decode prog_14_method_36_code 84 = .ok (.goto (-80), 3) := by decide +kernel
theorem d_Mo_swap_87 : decode prog_14_method_36_code 87 = .ok (.iconst 0, 1) := by decide +kernel
theorem d_Mo_swap_88 : decode prog_14_method_36_code 88 = .ok (.istore_n 2, 1) := by decide +kernel
theorem d_Mo_swap_89 : decode prog_14_method_36_code 89 = .ok (.iload_n 2, 1) := by decide +kernel
theorem d_Mo_swap_90 : decode prog_14_method_36_code 90 = .ok (.aload_n 0, 1) := by decide +kernel
theorem d_Mo_swap_91 : decode prog_14_method_36_code 91 = .ok (.getfield 140, 3) := by decide +kernel
theorem d_Mo_swap_94 : decode prog_14_method_36_code 94 = .ok (.if_icmp .ge 43, 3) := by decide +kernel
theorem d_Mo_swap_97 : decode prog_14_method_36_code 97 = .ok (.iload_n 1, 1) := by decide +kernel
theorem d_Mo_swap_98 : decode prog_14_method_36_code 98 = .ok (.ifCond .ne 39, 3) := by decide +kernel
theorem d_Mo_swap_101 : decode prog_14_method_36_code 101 = .ok (.aload_n 0, 1) := by decide +kernel
theorem d_Mo_swap_102 : decode prog_14_method_36_code 102 = .ok (.aload_n 0, 1) := by decide +kernel
theorem d_Mo_swap_103 : decode prog_14_method_36_code 103 = .ok (.getfield 45, 3) := by decide +kernel
theorem d_Mo_swap_106 : decode prog_14_method_36_code 106 = .ok (.iload_n 2, 1) := by decide +kernel
theorem d_Mo_swap_107 : decode prog_14_method_36_code 107 = .ok (.iaload, 1) := by decide +kernel
theorem d_Mo_swap_108 : decode prog_14_method_36_code 108 = .ok (.bipush 10, 2) := by decide +kernel
theorem d_Mo_swap_110 : decode prog_14_method_36_code 110 = .ok (.iload_n 2, 1) := by decide +kernel
theorem d_Mo_swap_111 : decode prog_14_method_36_code 111 = .ok (.iadd, 1) := by decide +kernel
theorem d_Mo_swap_112 : decode prog_14_method_36_code 112 = .ok (.invokevirtual 137, 3) := by decide +kernel
theorem d_Mo_swap_115 : decode prog_14_method_36_code 115 = .ok (.aload_n 0, 1) := by decide +kernel
theorem d_Mo_swap_116 : decode prog_14_method_36_code 116 = .ok (.bipush 13, 2) := by decide +kernel
theorem d_Mo_swap_118 : decode prog_14_method_36_code 118 = .ok (.iload_n 2, 1) := by decide +kernel
theorem d_Mo_swap_119 : decode prog_14_method_36_code 119 = .ok (.iadd, 1) := by decide +kernel
theorem d_Mo_swap_120 : decode prog_14_method_36_code 120 = .ok (.iconst 1, 1) := by decide +kernel
theorem d_Mo_swap_121 : decode prog_14_method_36_code 121 = .ok (.aload_n 0, 1) := by decide +kernel
theorem d_Mo_swap_122 : decode prog_14_method_36_code 122 = .ok (.getfield 45, 3) := by decide +kernel
theorem d_Mo_swap_125 : decode prog_14_method_36_code 125 = .ok (.iload_n 2, 1) := by decide +kernel
theorem d_Mo_swap_126 : decode prog_14_method_36_code 126 = .ok (.iaload, 1) := by decide +kernel
theorem d_Mo_swap_127 : decode prog_14_method_36_code 127 = .ok (.iadd, 1) := by decide +kernel
theorem d_Mo_swap_128 : decode prog_14_method_36_code 128 = .ok (.invokevirtual 81, 3) := by decide +kernel
theorem d_Mo_swap_131 : decode prog_14_method_36_code 131 = .ok (.iinc 2 1, 3) := by decide +kernel
theorem d_Mo_swap_134 : decode prog_14_method_36_code 134 = .ok (.goto (-45), 3) := by decide +kernel
theorem d_Mo_swap_137 : decode prog_14_method_36_code 137 = .ok (.aload_n 0, 1) := by decide +kernel
theorem d_Mo_swap_138 : decode prog_14_method_36_code 138 = .ok (.iconst 0, 1) := by decide +kernel
theorem d_Mo_swap_139 : decode prog_14_method_36_code 139 = .ok (.putfield 140, 3) := by decide +kernel
theorem d_Mo_swap_142 : decode prog_14_method_36_code 142 = .ok (.iload_n 1, 1) := by decide +kernel
theorem d_Mo_swap_143 : decode prog_14_method_36_code 143 = .ok (.ireturn, 1) := by decide +kernel
theorem d_Mo_repeat_0 : decode prog_14_method_37_code 0 = .ok (.aload_n 0, 1) := by decide +kernel
theorem d_Mo_repeat_1 : decode prog_14_method_37_code 1 = .ok (.iload_n 1, 1) := by decide +kernel
theorem d_Mo_repeat_2 : decode prog_14_method_37_code 2 = .ok (.invokevirtual 77, 3) := by decide +kernel
theorem d_Mo_repeat_5 : decode prog_14_method_37_code 5 = .ok (.ifCond .ne 5, 3) := by decide +kernel
theorem d_Mo_repeat_8 : decode prog_14_method_37_code 8 = .ok (.iconst (-1), 1) := by decide +kernel
theorem d_Mo_repeat_9 : decode prog_14_method_37_code 9 = .ok (.ireturn, 1) := by decide +kernel
theorem d_Mo_repeat_10 : decode prog_14_method_37_code 10 = .ok (.aload_n 0, 1) := by decide +kernel
theorem d_Mo_repeat_11 : decode prog_14_method_37_code 11 = .ok (.iconst 1, 1) := by decide +kernel
theorem d_Mo_repeat_12 : decode prog_14_method_37_code 12 = .ok (.iload_n 1, 1) := by decide +kernel
theorem d_Mo_repeat_13 : decode prog_14_method_37_code 13 = .ok (.iadd, 1) := by decide +kernel
theorem d_Mo_repeat_14 : decode prog_14_method_37_code 14 = .ok (.bipush 16, 2) := by decide +kernel
theorem d_Mo_repeat_16 : decode prog_14_method_37_code 16 = .ok (.invokevirtual 81, 3) := by decide +kernel
theorem d_Mo_repeat_19 : decode prog_14_method_37_code 19 = .ok (.aload_n 0, 1) := by decide +kernel
theorem d_Mo_repeat_20 : decode prog_14_method_37_code 20 = .ok (.bipush 16, 2) := by decide +kernel
theorem d_Mo_repeat_22 : decode prog_14_method_37_code 22 = .ok (.iload_n 1, 1) := by decide +kernel
theorem d_Mo_repeat_23 : decode prog_14_method_37_code 23 = .ok (.iconst 1, 1) := by decide +kernel
theorem d_Mo_repeat_24 : decode prog_14_method_37_code 24 = .ok (.invokevirtual 95, 3) := by decide +kernel
theorem d_Mo_repeat_27 : decode prog_14_method_37_code 27 = .ok (.aload_n 0, 1) := by decide +kernel
theorem d_Mo_repeat_28 : decode prog_14_method_37_code 28 = .ok (.bipush 16, 2) := by decide +kernel
theorem d_Mo_repeat_30 : decode prog_14_method_37_code 30 = .ok (.iload_n 1, 1) := by decide +kernel
theorem d_Mo_repeat_31 : decode prog_14_method_37_code 31 = .ok (.invokevirtual 143, 3) := by decide +kernel
theorem d_Mo_repeat_34 : decode prog_14_method_37_code 34 = .ok (.istore_n 2, 1) := by decide +kernel
theorem d_Mo_repeat_35 : decode prog_14_method_37_code 35 = .ok (.iload_n 2, 1) := by decide +kernel
theorem d_Mo_repeat_36 : decode prog_14_method_37_code 36 = .ok (.ifCond .ne 10, 3) := by decide +kernel
theorem d_Mo_repeat_39 : decode prog_14_method_37_code 39 = .ok (.aload_n 0, 1) := by decide +kernel
theorem d_Mo_repeat_40 : decode prog_14_method_37_code 40 = .ok (.iload_n 1, 1) := by decide +kernel
theorem d_Mo_repeat_41 : decode prog_14_method_37_code 41 = .ok (.bipush 16, 2) := by decide +kernel
theorem d_Mo_repeat_43 : decode prog_14_method_37_code 43 = .ok (.invokevirtual 137, 3) := by decide +kernel
theorem d_Mo_repeat_46 : decode prog_14_method_37_code 46 = .ok (.iload_n 2, 1) := by decide +kernel
theorem d_Mo_repeat_47 : decode prog_14_method_37_code 47 = .ok (.ireturn, 1) := by decide +kernel
theorem d_Mo_push_0 : decode prog_14_method_38_code 0 = .ok (.iconst 5, 1) := by decide +kernel
theorem d_Mo_push_1 : decode prog_14_method_38_code 1 = .ok (.iload_n 1, 1) := by decide +kernel
theorem d_Mo_push_2 : decode prog_14_method_38_code 2 = .ok (.imul, 1) := by decide +kernel
theorem d_Mo_push_3 : decode prog_14_method_38_code 3 = .ok (.aload_n 0, 1) := by decide +kernel
theorem d_Mo_push_4 : decode prog_14_method_38_code 4 = .ok (.getfield 48, 3) := by decide +kernel
theorem d_Mo_push_7 : decode prog_14_method_38_code 7 = .ok (.iload_n 1, 1) := by decide +kernel
theorem d_Mo_push_8 : decode prog_14_method_38_code 8 = .ok (.iaload, 1) := by decide +kernel
theorem d_Mo_push_9 : decode prog_14_method_38_code 9 = .ok (.iadd, 1) := by decide +kernel
theorem d_Mo_push_10 : decode prog_14_method_38_code 10 = .ok (.istore 4, 2) := by decide +kernel
theorem d_Mo_push_12 : decode prog_14_method_38_code 12 = .ok (.aload_n 0, 1) := by decide +kernel
theorem d_Mo_push_13 : decode prog_14_method_38_code 13 = .ok (.getfield 51, 3) := by decide +kernel
theorem d_Mo_push_16 : decode prog_14_method_38_code 16 = .ok (.iload 4, 2) := by decide +kernel
theorem d_Mo_push_18 : decode prog_14_method_38_code 18 = .ok (.aload_n 0, 1) := by decide +kernel
theorem d_Mo_push_19 : decode prog_14_method_38_code 19 = .ok (.getfield 17, 3) := by decide +kernel
theorem d_Mo_push_22 : decode prog_14_method_38_code 22 = .ok (.iload_n 2, 1) := by decide +kernel
theorem d_Mo_push_23 : decode prog_14_method_38_code 23 = .ok (.iaload, 1) := by decide +kernel
theorem d_Mo_push_24 : decode prog_14_method_38_code 24 = .ok (.iastore, 1) := by decide +kernel
theorem d_Mo_push_25 : decode prog_14_method_38_code 25 = .ok (.aload_n 0, 1) := by decide +kernel
theorem d_Mo_push_26 : decode prog_14_method_38_code 26 = .ok (.getfield 54, 3) := by decide +kernel
theorem d_Mo_push_29 : decode prog_14_method_38_code 29 = .ok (.iload 4, 2) := by decide +kernel
theorem d_Mo_push_31 : decode prog_14_method_38_code 31 = .ok (.aload_n 0, 1) := by decide +kernel
theorem d_Mo_push_32 : decode prog_14_method_38_code 32 = .ok (.aload_n 0, 1) := by decide +kernel
theorem d_Mo_push_33 : decode prog_14_method_38_code 33 = .ok (.getfield 17, 3) := by decide +kernel
theorem d_Mo_push_36 : decode prog_14_method_38_code 36 = .ok (.iload_n 2, 1) := by decide +kernel
theorem d_Mo_push_37 : decode prog_14_method_38_code 37 = .ok (.iaload, 1) := by decide +kernel
theorem d_Mo_push_38 : decode prog_14_method_38_code 38 = .ok (.iload_n 3, 1) := by decide +kernel
theorem d_Mo_push_39 : decode prog_14_method_38_code 39 = .ok (.invokevirtual 89, 3) := by decide +kernel
theorem d_Mo_push_42 : decode prog_14_method_38_code 42 = .ok (.iastore, 1) := by decide +kernel
theorem d_Mo_push_43 : decode prog_14_method_38_code 43 = .ok (.aload_n 0, 1) := by decide +kernel
theorem d_Mo_push_44 : decode prog_14_method_38_code 44 = .ok (.getfield 57, 3) := by decide +kernel
theorem d_Mo_push_47 : decode prog_14_method_38_code 47 = .ok (.iload 4, 2) := by decide +kernel
theorem d_Mo_push_49 : decode prog_14_method_38_code 49 = .ok (.iconst 0, 1) := by decide +kernel
theorem d_Mo_push_50 : decode prog_14_method_38_code 50 = .ok (.iastore, 1) := by decide +kernel
theorem d_Mo_push_51 : decode prog_14_method_38_code 51 = .ok (.aload_n 0, 1) := by decide +kernel
theorem d_Mo_push_52 : decode prog_14_method_38_code 52 = .ok (.getfield 60, 3) := by decide +kernel
theorem d_Mo_push_55 : decode prog_14_method_38_code 55 = .ok (.iload 4, 2) := by decide +kernel
theorem d_Mo_push_57 : decode prog_14_method_38_code 57 = .ok (.iconst 0, 1) := by decide +kernel
theorem d_Mo_push_58 : decode prog_14_method_38_code 58 = .ok (.iastore, 1) := by decide +kernel
theorem d_Mo_push_59 : decode prog_14_method_38_code 59 = .ok (.aload_n 0, 1) := by decide +kernel
theorem d_Mo_push_60 : decode prog_14_method_38_code 60 = .ok (.getfield 48, 3) := by decide +kernel
theorem d_Mo_push_63 : decode prog_14_method_38_code 63 = .ok (.iload_n 1, 1) := by decide +kernel
theorem d_Mo_push_64 : decode prog_14_method_38_code 64 = .ok (.dup2, 1) := by decide +kernel
theorem d_Mo_push_65 : decode prog_14_method_38_code 65 = .ok (.iaload, 1) := by decide +kernel
theorem d_Mo_push_66 : decode prog_14_method_38_code 66 = .ok (.iconst 1, 1) := by decide +kernel
theorem d_Mo_push_67 : decode prog_14_method_38_code 67 = .ok (.iadd, 1) := by decide +kernel
theorem d_Mo_push_68 : decode prog_14_method_38_code 68 = .ok (.iastore, 1) := by decide +kernel
theorem d_Mo_push_69 : decode prog_14_method_38_code 69 = .ok (.return_, 1) := by decide +kernel
theorem d_Mo_isThread_0 : decode prog_14_method_39_code 0 = .ok (.iload_n 0, 1) := by decide +kernel
theorem d_Mo_isThread_1 : decode prog_14_method_39_code 1 = .ok (.ifCond .lt 12, 3) := by decide +kernel
theorem d_Mo_isThread_4 : decode prog_14_method_39_code 4 = .ok (.iload_n 0, 1) := by decide +kernel
theorem d_Mo_isThread_5 : decode prog_14_method_39_code 5 = .ok (.iconst 2, 1) := by decide +kernel
theorem d_Mo_isThread_6 : decode prog_14_method_39_code 6 = .ok (.if_icmp .gt 7, 3) := by decide +kernel
theorem d_Mo_isThread_9 : decode prog_14_method_39_code 9 = .ok (.iconst 1, 1) := by decide +kernel
theorem d_Mo_isThread_10 : decode prog_14_method_39_code 10 = .ok (.goto 4, 3) := by decide +kernel
theorem d_Mo_isThread_13 : decode prog_14_method_39_code 13 = .ok (.iconst 0, 1) := by decide +kernel
theorem d_Mo_isThread_14 : decode prog_14_method_39_code 14 = .ok (.ireturn, 1) := by decide +kernel
theorem d_Mo_start_0 : decode prog_14_method_40_code 0 = .ok (.iload_n 1, 1) := by decide +kernel
theorem d_Mo_start_1 : decode prog_14_method_40_code 1 = .ok (.invokestatic 146, 3) := by decide +kernel
theorem d_Mo_start_4 : decode prog_14_method_40_code 4 = .ok (.ifCond .eq 35, 3) := by decide +kernel
theorem d_Mo_start_7 : decode prog_14_method_40_code 7 = .ok (.aload_n 0, 1) := by decide +kernel
theorem d_Mo_start_8 : decode prog_14_method_40_code 8 = .ok (.getfield 48, 3) := by decide +kernel
theorem d_Mo_start_11 : decode prog_14_method_40_code 11 = .ok (.iload_n 1, 1) := by decide +kernel
theorem d_Mo_start_12 : decode prog_14_method_40_code 12 = .ok (.iaload, 1) := by decide +kernel
theorem d_Mo_start_13 : decode prog_14_method_40_code 13 = .ok (.ifCond .gt 26, 3) := by decide +kernel
theorem d_Mo_start_16 : decode prog_14_method_40_code 16 = .ok (.aload_n 0, 1) := by decide +kernel
theorem d_Mo_start_17 : decode prog_14_method_40_code 17 = .ok (.iload_n 2, 1) := by decide +kernel
theorem d_Mo_start_18 : decode prog_14_method_40_code 18 = .ok (.invokevirtual 77, 3) := by decide +kernel
theorem d_Mo_start_21 : decode prog_14_method_40_code 21 = .ok (.ifCond .eq 18, 3) := by decide +kernel
theorem d_Mo_start_24 : decode prog_14_method_40_code 24 = .ok (.aload_n 0, 1) := by decide +kernel
theorem d_Mo_start_25 : decode prog_14_method_40_code 25 = .ok (.aload_n 0, 1) := by decide +kernel
theorem d_Mo_start_26 : decode prog_14_method_40_code 26 = .ok (.getfield 17, 3) := by decide +kernel
theorem d_Mo_start_29 : decode prog_14_method_40_code 29 = .ok (.iload_n 2, 1) := by decide +kernel
theorem d_Mo_start_30 : decode prog_14_method_40_code 30 = .ok (.iaload, 1) := by decide +kernel
theorem d_Mo_start_31 : decode prog_14_method_40_code 31 = .ok (.iload_n 3, 1) := by decide +kernel
theorem d_Mo_start_32 : decode prog_14_method_40_code 32 = .ok (.invokevirtual 89, 3) := by decide +kernel
theorem d_Mo_start_35 : decode prog_14_method_40_code 35 = .ok (.iconst (-1), 1) := by decide +kernel
theorem d_Mo_start_36 : decode prog_14_method_40_code 36 = .ok (.if_icmp .ne 5, 3) := by decide +kernel
theorem d_Mo_start_39 : decode prog_14_method_40_code 39 = .ok (.iconst 0, 1) := by decide +kernel
theorem d_Mo_start_40 : decode prog_14_method_40_code 40 = .ok (.ireturn, 1) := by decide +kernel
theorem d_Mo_start_41 : decode prog_14_method_40_code 41 = .ok (.aload_n 0, 1) := by decide +kernel
theorem d_Mo_start_42 : decode prog_14_method_40_code 42 = .ok (.iload_n 1, 1) := by decide +kernel
theorem d_Mo_start_43 : decode prog_14_method_40_code 43 = .ok (.iload_n 2, 1) := by decide +kernel
theorem d_Mo_start_44 : decode prog_14_method_40_code 44 = .ok (.iload_n 3, 1) := by decide +kernel
theorem d_Mo_start_45 : decode prog_14_method_40_code 45 = .ok (.invokevirtual 149, 3) := by decide +kernel
theorem d_Mo_start_48 : decode prog_14_method_40_code 48 = .ok (.iconst 1, 1) := by decide +kernel
theorem d_Mo_start_49 : decode prog_14_method_40_code 49 = .ok (.ireturn, 1) := by decide +kernel
theorem d_Mo_once_0 : decode prog_14_method_41_code 0 = .ok (.iconst 5, 1) := by decide +kernel
theorem d_Mo_once_1 : decode prog_14_method_41_code 1 = .ok (.iload_n 1, 1) := by decide +kernel
theorem d_Mo_once_2 : decode prog_14_method_41_code 2 = .ok (.imul, 1) := by decide +kernel
theorem d_Mo_once_3 : decode prog_14_method_41_code 3 = .ok (.aload_n 0, 1) := by decide +kernel
theorem d_Mo_once_4 : decode prog_14_method_41_code 4 = .ok (.getfield 48, 3) := by decide +kernel
theorem d_Mo_once_7 : decode prog_14_method_41_code 7 = .ok (.iload_n 1, 1) := by decide +kernel
theorem d_Mo_once_8 : decode prog_14_method_41_code 8 = .ok (.iaload, 1) := by decide +kernel
theorem d_Mo_once_9 : decode prog_14_method_41_code 9 = .ok (.iadd, 1) := by decide +kernel
theorem d_Mo_once_10 : decode prog_14_method_41_code 10 = .ok (.iconst 1, 1) := by decide +kernel
theorem d_Mo_once_11 : decode prog_14_method_41_code 11 = .ok (.isub, 1) := by decide +kernel
theorem d_Mo_once_12 : decode prog_14_method_41_code 12 = .ok (.istore_n 2, 1) := by decide +kernel
theorem d_Mo_once_13 : decode prog_14_method_41_code 13 = .ok (.aload_n 0, 1) := by decide +kernel
theorem d_Mo_once_14 : decode prog_14_method_41_code 14 = .ok (.getfield 54, 3) := by decide +kernel
theorem d_Mo_once_17 : decode prog_14_method_41_code 17 = .ok (.iload_n 2, 1) := by decide +kernel
theorem d_Mo_once_18 : decode prog_14_method_41_code 18 = .ok (.iaload, 1) := by decide +kernel
theorem d_Mo_once_19 : decode prog_14_method_41_code 19 = .ok (.iconst 2, 1) := by decide +kernel
theorem d_Mo_once_20 : decode prog_14_method_41_code 20 = .ok (.iadd, 1) := by decide +kernel
theorem d_Mo_once_21 : decode prog_14_method_41_code 21 = .ok (.istore_n 3, 1) := by decide +kernel
theorem d_Mo_once_22 : decode prog_14_method_41_code 22 = .ok (.aload_n 0, 1) := by decide +kernel
theorem d_Mo_once_23 : decode prog_14_method_41_code 23 = .ok (.getfield 57, 3) := by decide +kernel
theorem d_Mo_once_26 : decode prog_14_method_41_code 26 = .ok (.iload_n 2, 1) := by decide +kernel
theorem d_Mo_once_27 : decode prog_14_method_41_code 27 = .ok (.iaload, 1) := by decide +kernel
theorem d_Mo_once_28 : decode prog_14_method_41_code 28 = .ok (.aload_n 0, 1) := by decide +kernel
theorem d_Mo_once_29 : decode prog_14_method_41_code 29 = .ok (.aload_n 0, 1) := by decide +kernel
theorem d_Mo_once_30 : decode prog_14_method_41_code 30 = .ok (.getfield 51, 3) := by decide +kernel
theorem d_Mo_once_33 : decode prog_14_method_41_code 33 = .ok (.iload_n 2, 1) := by decide +kernel
theorem d_Mo_once_34 : decode prog_14_method_41_code 34 = .ok (.iaload, 1) := by decide +kernel
theorem d_Mo_once_35 : decode prog_14_method_41_code 35 = .ok (.iload_n 3, 1) := by decide +kernel
theorem d_Mo_once_36 : decode prog_14_method_41_code 36 = .ok (.invokevirtual 69, 3) := by decide +kernel
theorem d_Mo_once_39 : decode prog_14_method_41_code 39 = .ok (.if_icmp .lt 55, 3) := by decide +kernel
theorem d_Mo_once_42 : decode prog_14_method_41_code 42 = .ok (.aload_n 0, 1) := by decide +kernel
theorem d_Mo_once_43 : decode prog_14_method_41_code 43 = .ok (.getfield 48, 3) := by decide +kernel
theorem d_Mo_once_46 : decode prog_14_method_41_code 46 = .ok (.iload_n 1, 1) := by decide +kernel
theorem d_Mo_once_47 : decode prog_14_method_41_code 47 = .ok (.dup2, 1) := by decide +kernel
theorem d_Mo_once_48 : decode prog_14_method_41_code 48 = .ok (.iaload, 1) := by decide +kernel
theorem d_Mo_once_49 : decode prog_14_method_41_code 49 = .ok (.iconst 1, 1) := by decide +kernel
theorem d_Mo_once_50 : decode prog_14_method_41_code 50 = .ok (.isub, 1) := by decide +kernel
theorem d_Mo_once_51 : decode prog_14_method_41_code 51 = .ok (.iastore, 1) := by decide +kernel
theorem d_Mo_once_52 : decode prog_14_method_41_code 52 = .ok (.aload_n 0, 1) := by decide +kernel
theorem d_Mo_once_53 : decode prog_14_method_41_code 53 = .ok (.getfield 48, 3) := by decide +kernel
theorem d_Mo_once_56 : decode prog_14_method_41_code 56 = .ok (.iload_n 1, 1) := by decide +kernel
theorem d_Mo_once_57 : decode prog_14_method_41_code 57 = .ok (.iaload, 1) := by decide +kernel
theorem d_Mo_once_58 : decode prog_14_method_41_code 58 = .ok (.ifCond .ne 18, 3) := by decide +kernel
theorem d_Mo_once_61 : decode prog_14_method_41_code 61 = .ok (.aload_n 0, 1) := by decide +kernel
theorem d_Mo_once_62 : decode prog_14_method_41_code 62 = .ok (.getfield 63, 3) := by decide +kernel
theorem d_Mo_once_65 : decode prog_14_method_41_code 65 = .ok (.iload_n 1, 1) := by decide +kernel
theorem d_Mo_once_66 : decode prog_14_method_41_code 66 = .ok (.aload_n 0, 1) := by decide +kernel
theorem d_Mo_once_67 : decode prog_14_method_41_code 67 = .ok (.getfield 60, 3) := by decide +kernel
theorem d_Mo_once_70 : decode prog_14_method_41_code 70 = .ok (.iload_n 2, 1) := by decide +kernel
theorem d_Mo_once_71 : decode prog_14_method_41_code 71 = .ok (.iaload, 1) := by decide +kernel
theorem d_Mo_once_72 : decode prog_14_method_41_code 72 = .ok (.iastore, 1) := by decide +kernel
theorem d_Mo_once_73 : decode prog_14_method_41_code 73 = .ok (.goto 20, 3) := by decide +kernel
theorem d_Mo_once_76 : decode prog_14_method_41_code 76 = .ok (.aload_n 0, 1) := by decide +kernel
theorem d_Mo_once_77 : decode prog_14_method_41_code 77 = .ok (.getfield 60, 3) := by decide +kernel
theorem d_Mo_once_80 : decode prog_14_method_41_code 80 = .ok (.iload_n 2, 1) := by decide +kernel
theorem d_Mo_once_81 : decode prog_14_method_41_code 81 = .ok (.iconst 1, 1) := by decide +kernel
theorem d_Mo_once_82 : decode prog_14_method_41_code 82 = .ok (.isub, 1) := by decide +kernel
theorem d_Mo_once_83 : decode prog_14_method_41_code 83 = .ok (.dup2, 1) := by decide +kernel
theorem d_Mo_once_84 : decode prog_14_method_41_code 84 = .ok (.iaload, 1) := by decide +kernel
theorem d_Mo_once_85 : decode prog_14_method_41_code 85 = .ok (.aload_n 0, 1) := by decide +kernel
theorem d_Mo_once_86 : decode prog_14_method_41_code 86 = .ok (.getfield 60, 3) := by decide +kernel
theorem d_Mo_once_89 : decode prog_14_method_41_code 89 = .ok (.iload_n 2, 1) := by decide +kernel
theorem d_Mo_once_90 : decode prog_14_method_41_code 90 = .ok (.iaload, 1) := by decide +kernel
theorem d_Mo_once_91 : decode prog_14_method_41_code 91 = .ok (.iadd, 1) := by decide +kernel
theorem d_Mo_once_92 : decode prog_14_method_41_code 92 = .ok (.iastore, 1) := by decide +kernel
theorem d_Mo_once_93 : decode prog_14_method_41_code 93 = .ok (.return_, 1) := by decide +kernel
theorem d_Mo_once_94 : decode prog_14_method_41_code 94 = .ok (.iload_n 3, 1) := by decide +kernel
theorem d_Mo_once_95 : decode prog_14_method_41_code 95 = .ok (.iconst 1, 1) := by decide +kernel
theorem d_Mo_once_96 : decode prog_14_method_41_code 96 = .ok (.iadd, 1) := by decide +kernel
theorem d_Mo_once_97 : decode prog_14_method_41_code 97 = .ok (.iconst 3, 1) := by decide +kernel
theorem d_Mo_once_98 : decode prog_14_method_41_code 98 = .ok (.aload_n 0, 1) := by decide +kernel
theorem d_Mo_once_99 : decode prog_14_method_41_code 99 = .ok (.getfield 57, 3) := by decide +kernel
theorem d_Mo_once_102 : decode prog_14_method_41_code 102 = .ok (.iload_n 2, 1) := by decide +kernel
theorem d_Mo_once_103 : decode prog_14_method_41_code 103 = .ok (.iaload, 1) := by decide +kernel
theorem d_Mo_once_104 : decode prog_14_method_41_code 104 = .ok (.imul, 1) := by decide +kernel
theorem d_Mo_once_105 : decode prog_14_method_41_code 105 = .ok (.iadd, 1) := by decide +kernel
theorem d_Mo_once_106 : decode prog_14_method_41_code 106 = .ok (.istore 4, 2) := by decide +kernel
theorem d_Mo_once_108 : decode prog_14_method_41_code 108 = .ok (.aload_n 0, 1) := by decide +kernel
theorem d_Mo_once_109 : decode prog_14_method_41_code 109 = .ok (.aload_n 0, 1) := by decide +kernel
theorem d_Mo_once_110 : decode prog_14_method_41_code 110 = .ok (.getfield 51, 3) := by decide +kernel
theorem d_Mo_once_113 : decode prog_14_method_41_code 113 = .ok (.iload_n 2, 1) := by decide +kernel
theorem d_Mo_once_114 : decode prog_14_method_41_code 114 = .ok (.iaload, 1) := by decide +kernel
theorem d_Mo_once_115 : decode prog_14_method_41_code 115 = .ok (.iload 4, 2) := by decide +kernel
theorem d_Mo_once_117 : decode prog_14_method_41_code 117 = .ok (.invokevirtual 69, 3) := by decide +kernel
theorem d_Mo_once_120 : decode prog_14_method_41_code 120 = .ok (.istore 5, 2) := by decide +kernel
theorem d_Mo_once_122 : decode prog_14_method_41_code 122 = .ok (.aload_n 0, 1) := by decide +kernel
theorem d_Mo_once_123 : decode prog_14_method_41_code 123 = .ok (.aload_n 0, 1) := by decide +kernel
theorem d_Mo_once_124 : decode prog_14_method_41_code 124 = .ok (.getfield 51, 3) := by decide +kernel
theorem d_Mo_once_127 : decode prog_14_method_41_code 127 = .ok (.iload_n 2, 1) := by decide +kernel
theorem d_Mo_once_128 : decode prog_14_method_41_code 128 = .ok (.iaload, 1) := by decide +kernel
theorem d_Mo_once_129 : decode prog_14_method_41_code 129 = .ok (.iload 4, 2) := by decide +kernel
theorem d_Mo_once_131 : decode prog_14_method_41_code 131 = .ok (.iconst 1, 1) := by decide +kernel
theorem d_Mo_once_132 : decode prog_14_method_41_code 132 = .ok (.iadd, 1) := by decide +kernel
theorem d_Mo_once_133 : decode prog_14_method_41_code 133 = .ok (.invokevirtual 69, 3) := by decide +kernel
theorem d_Mo_once_136 : decode prog_14_method_41_code 136 = .ok (.istore 6, 2) := by decide +kernel
theorem d_Mo_once_138 : decode prog_14_method_41_code 138 = .ok (.aload_n 0, 1) := by decide +kernel
theorem d_Mo_once_139 : decode prog_14_method_41_code 139 = .ok (.aload_n 0, 1) := by decide +kernel
theorem d_Mo_once_140 : decode prog_14_method_41_code 140 = .ok (.getfield 51, 3) := by decide +kernel
theorem d_Mo_once_143 : decode prog_14_method_41_code 143 = .ok (.iload_n 2, 1) := by decide +kernel
theorem d_Mo_once_144 : decode prog_14_method_41_code 144 = .ok (.iaload, 1) := by decide +kernel
theorem d_Mo_once_145 : decode prog_14_method_41_code 145 = .ok (.iload 4, 2) := by decide +kernel
theorem d_Mo_once_147 : decode prog_14_method_41_code 147 = .ok (.iconst 2, 1) := by decide +kernel
theorem d_Mo_once_148 : decode prog_14_method_41_code 148 = .ok (.iadd, 1) := by decide +kernel
theorem d_Mo_once_149 : decode prog_14_method_41_code 149 = .ok (.invokevirtual 69, 3) := by decide +kernel
theorem d_Mo_once_152 : decode prog_14_method_41_code 152 = .ok (.istore 7, 2) := by decide +kernel
theorem d_Mo_once_154 : decode prog_14_method_41_code 154 = .ok (.aload_n 0, 1) := by decide +kernel
theorem d_Mo_once_155 : decode prog_14_method_41_code 155 = .ok (.getfield 57, 3) := by decide +kernel
theorem d_Mo_once_158 : decode prog_14_method_41_code 158 = .ok (.iload_n 2, 1) := by decide +kernel
theorem d_Mo_once_159 : decode prog_14_method_41_code 159 = .ok (.dup2, 1) := by decide +kernel
theorem d_Mo_once_160 : decode prog_14_method_41_code 160 = .ok (.iaload, 1) := by decide +kernel
theorem d_Mo_once_161 : decode prog_14_method_41_code 161 = .ok (.iconst 1, 1) := by decide +kernel
theorem d_Mo_once_162 : decode prog_14_method_41_code 162 = .ok (.iadd, 1) := by decide +kernel
theorem d_Mo_once_163 : decode prog_14_method_41_code 163 = .ok (.iastore, 1) := by decide +kernel
theorem d_Mo_once_164 : decode prog_14_method_41_code 164 = .ok (.iload 5, 2) := by decide +kernel
theorem d_Mo_once_166 : decode prog_14_method_41_code 166 = .ok (.ifCond .ne 17, 3) := by decide +kernel
theorem d_Mo_once_169 : decode prog_14_method_41_code 169 = .ok (.aload_n 0, 1) := by decide +kernel
theorem d_Mo_once_170 : decode prog_14_method_41_code 170 = .ok (.getfield 60, 3) := by decide +kernel
theorem d_Mo_once_173 : decode prog_14_method_41_code 173 = .ok (.iload_n 2, 1) := by decide +kernel
theorem d_Mo_once_174 : decode prog_14_method_41_code 174 = .ok (.dup2, 1) := by decide +kernel
theorem d_Mo_once_175 : decode prog_14_method_41_code 175 = .ok (.iaload, 1) := by decide +kernel
theorem d_Mo_once_176 : decode prog_14_method_41_code 176 = .ok (.iload 6, 2) := by decide +kernel
theorem d_Mo_once_178 : decode prog_14_method_41_code 178 = .ok (.iadd, 1) := by decide +kernel
theorem d_Mo_once_179 : decode prog_14_method_41_code 179 = .ok (.iastore, 1) := by decide +kernel
theorem d_Mo_once_180 : decode prog_14_method_41_code 180 = .ok (.goto 22, 3) := by decide +kernel
theorem d_Mo_once_183 : decode prog_14_method_41_code 183 = .ok (.aload_n 0, 1) := by decide +kernel
theorem d_Mo_once_184 : decode prog_14_method_41_code 184 = .ok (.getfield 48, 3) := by decide +kernel
theorem d_Mo_once_187 : decode prog_14_method_41_code 187 = .ok (.iload_n 1, 1) := by decide +kernel
theorem d_Mo_once_188 : decode prog_14_method_41_code 188 = .ok (.iaload, 1) := by decide +kernel
theorem d_Mo_once_189 : decode prog_14_method_41_code 189 = .ok (.iconst 5, 1) := by decide +kernel
theorem d_Mo_once_190 : decode prog_14_method_41_code 190 = .ok (.if_icmp .ge 12, 3) := by decide +kernel
theorem d_Mo_once_193 : decode prog_14_method_41_code 193 = .ok (.aload_n 0, 1) := by decide +kernel
theorem d_Mo_once_194 : decode prog_14_method_41_code 194 = .ok (.iload_n 1, 1) := by decide +kernel
theorem d_Mo_once_195 : decode prog_14_method_41_code 195 = .ok (.iload 6, 2) := by decide +kernel
theorem d_Mo_once_197 : decode prog_14_method_41_code 197 = .ok (.iload 7, 2) := by decide +kernel
theorem d_Mo_once_199 : decode prog_14_method_41_code 199 = .ok (.invokevirtual 149, 3) := by decide +kernel
theorem d_Mo_once_202 : decode prog_14_method_41_code 202 = .ok (.return_, 1) := by decide +kernel
theorem d_Mo_step_0 : decode prog_14_method_42_code 0 = .ok (.iload_n 1, 1) := by decide +kernel
theorem d_Mo_step_1 : decode prog_14_method_42_code 1 = .ok (.invokestatic 146, 3) := by decide +kernel
theorem d_Mo_step_4 : decode prog_14_method_42_code 4 = .ok (.ifCond .eq 13, 3) := by decide +kernel
theorem d_Mo_step_7 : decode prog_14_method_42_code 7 = .ok (.iload_n 2, 1) := by decide +kernel
theorem d_Mo_step_8 : decode prog_14_method_42_code 8 = .ok (.ifCond .lt 9, 3) := by decide +kernel
theorem d_Mo_step_11 : decode prog_14_method_42_code 11 = .ok (.iload_n 2, 1) := by decide +kernel
theorem d_Mo_step_12 : decode prog_14_method_42_code 12 = .ok (.bipush 100, 2) := by decide +kernel
theorem d_Mo_step_14 : decode prog_14_method_42_code 14 = .ok (.if_icmp .le 5, 3) := by decide +kernel
theorem d_Mo_step_17 : decode prog_14_method_42_code 17 = .ok (.iconst (-1), 1) := by decide +kernel
theorem d_Mo_step_18 : decode prog_14_method_42_code 18 = .ok (.ireturn, 1) := by decide +kernel
theorem d_Mo_step_19 : decode prog_14_method_42_code 19 = .ok (.iconst 0, 1) := by decide +kernel
theorem d_Mo_step_20 : decode prog_14_method_42_code 20 = .ok (.istore_n 3, 1) := by decide +kernel
theorem d_Mo_step_21 : decode prog_14_method_42_code 21 = .ok (.iload_n 3, 1) := by decide +kernel
theorem d_Mo_step_22 : decode prog_14_method_42_code 22 = .ok (.iload_n 2, 1) := by decide +kernel
theorem d_Mo_step_23 : decode prog_14_method_42_code 23 = .ok (.if_icmp .ge 23, 3) := by decide +kernel
theorem d_Mo_step_26 : decode prog_14_method_42_code 26 = .ok (.aload_n 0, 1) := by decide +kernel
theorem d_Mo_step_27 : decode prog_14_method_42_code 27 = .ok (.getfield 48, 3) := by decide +kernel
theorem d_Mo_step_30 : decode prog_14_method_42_code 30 = .ok (.iload_n 1, 1) := by decide +kernel
theorem d_Mo_step_31 : decode prog_14_method_42_code 31 = .ok (.iaload, 1) := by decide +kernel
theorem d_Mo_step_32 : decode prog_14_method_42_code 32 = .ok (.ifCond .le 14, 3) := by decide +kernel
theorem d_Mo_step_35 : decode prog_14_method_42_code 35 = .ok (.aload_n 0, 1) := by decide +kernel
theorem d_Mo_step_36 : decode prog_14_method_42_code 36 = .ok (.iload_n 1, 1) := by decide +kernel
theorem d_Mo_step_37 : decode prog_14_method_42_code 37 = .ok (.invokevirtual 152, 3) := by decide +kernel
theorem d_Mo_step_40 : decode prog_14_method_42_code 40 = .ok (.iinc 3 1, 3) := by decide +kernel
theorem d_Mo_step_43 : decode prog_14_method_42_code 43 = .ok (.goto (-22), 3) := by decide +kernel
theorem d_Mo_step_46 : decode prog_14_method_42_code 46 = .ok (.iload_n 3, 1) := by decide +kernel
theorem d_Mo_step_47 : decode prog_14_method_42_code 47 = .ok (.ireturn, 1) := by decide +kernel
theorem d_Mo_frame_0 : decode prog_14_method_43_code 0 = .ok (.iload_n 1, 1) := by decide +kernel
theorem d_Mo_frame_1 : decode prog_14_method_43_code 1 = .ok (.invokestatic 146, 3) := by decide +kernel
theorem d_Mo_frame_4 : decode prog_14_method_43_code 4 = .ok (.ifCond .eq 17, 3) := by decide +kernel
theorem d_Mo_frame_7 : decode prog_14_method_43_code 7 = .ok (.iload_n 2, 1) := by decide +kernel
theorem d_Mo_frame_8 : decode prog_14_method_43_code 8 = .ok (.ifCond .lt 13, 3) := by decide +kernel
theorem d_Mo_frame_11 : decode prog_14_method_43_code 11 = .ok (.iload_n 2, 1) := by decide +kernel
theorem d_Mo_frame_12 : decode prog_14_method_43_code 12 = .ok (.aload_n 0, 1) := by decide +kernel
theorem d_Mo_frame_13 : decode prog_14_method_43_code 13 = .ok (.getfield 48, 3) := by decide +kernel
theorem d_Mo_frame_16 : decode prog_14_method_43_code 16 = .ok (.iload_n 1, 1) := by decide +kernel
theorem d_Mo_frame_17 : decode prog_14_method_43_code 17 = .ok (.iaload, 1) := by decide +kernel
theorem d_Mo_frame_18 : decode prog_14_method_43_code 18 = .ok (.if_icmp .lt 5, 3) := by decide +kernel
theorem d_Mo_frame_21 : decode prog_14_method_43_code 21 = .ok (.iconst (-1), 1) := by decide +kernel
theorem d_Mo_frame_22 : decode prog_14_method_43_code 22 = .ok (.ireturn, 1) := by decide +kernel
theorem d_Mo_frame_23 : decode prog_14_method_43_code 23 = .ok (.aload_n 0, 1) := by decide +kernel
theorem d_Mo_frame_24 : decode prog_14_method_43_code 24 = .ok (.getfield 51, 3) := by decide +kernel
theorem d_Mo_frame_27 : decode prog_14_method_43_code 27 = .ok (.iconst 5, 1) := by decide +kernel
theorem d_Mo_frame_28 : decode prog_14_method_43_code 28 = .ok (.iload_n 1, 1) := by decide +kernel
theorem d_Mo_frame_29 : decode prog_14_method_43_code 29 = .ok (.imul, 1) := by decide +kernel
theorem d_Mo_frame_30 : decode prog_14_method_43_code 30 = .ok (.iload_n 2, 1) := by decide +kernel
theorem d_Mo_frame_31 : decode prog_14_method_43_code 31 = .ok (.iadd, 1) := by decide +kernel
theorem d_Mo_frame_32 : decode prog_14_method_43_code 32 = .ok (.iaload, 1) := by decide +kernel
theorem d_Mo_frame_33 : decode prog_14_method_43_code 33 = .ok (.istore_n 3, 1) := by decide +kernel
theorem d_Mo_frame_34 : decode prog_14_method_43_code 34 = .ok (.bipush 8, 2) := by decide +kernel
theorem d_Mo_frame_36 : decode prog_14_method_43_code 36 = .ok (.aload_n 0, 1) := by decide +kernel
theorem d_Mo_frame_37 : decode prog_14_method_43_code 37 = .ok (.getfield 23, 3) := by decide +kernel
theorem d_Mo_frame_40 : decode prog_14_method_43_code 40 = .ok (.iload_n 3, 1) := by decide +kernel
theorem d_Mo_frame_41 : decode prog_14_method_43_code 41 = .ok (.iaload, 1) := by decide +kernel
theorem d_Mo_frame_42 : decode prog_14_method_43_code 42 = .ok (.imul, 1) := by decide +kernel
theorem d_Mo_frame_43 : decode prog_14_method_43_code 43 = .ok (.aload_n 0, 1) := by decide +kernel
theorem d_Mo_frame_44 : decode prog_14_method_43_code 44 = .ok (.getfield 26, 3) := by decide +kernel
theorem d_Mo_frame_47 : decode prog_14_method_43_code 47 = .ok (.iload_n 3, 1) := by decide +kernel
theorem d_Mo_frame_48 : decode prog_14_method_43_code 48 = .ok (.iaload, 1) := by decide +kernel
theorem d_Mo_frame_49 : decode prog_14_method_43_code 49 = .ok (.iadd, 1) := by decide +kernel
theorem d_Mo_frame_50 : decode prog_14_method_43_code 50 = .ok (.ireturn, 1) := by decide +kernel
theorem d_Mo_result_0 : decode prog_14_method_44_code 0 = .ok (.iload_n 1, 1) := by decide +kernel
theorem d_Mo_result_1 : decode prog_14_method_44_code 1 = .ok (.invokestatic 146, 3) := by decide +kernel
theorem d_Mo_result_4 : decode prog_14_method_44_code 4 = .ok (.ifCond .eq 12, 3) := by decide +kernel
theorem d_Mo_result_7 : decode prog_14_method_44_code 7 = .ok (.aload_n 0, 1) := by decide +kernel
theorem d_Mo_result_8 : decode prog_14_method_44_code 8 = .ok (.getfield 63, 3) := by decide +kernel
theorem d_Mo_result_11 : decode prog_14_method_44_code 11 = .ok (.iload_n 1, 1) := by decide +kernel
theorem d_Mo_result_12 : decode prog_14_method_44_code 12 = .ok (.iaload, 1) := by decide +kernel
theorem d_Mo_result_13 : decode prog_14_method_44_code 13 = .ok (.goto 4, 3) := by decide +kernel
theorem d_Mo_result_16 : decode prog_14_method_44_code 16 = .ok (.iconst 0, 1) := by decide +kernel
theorem d_Mo_result_17 : decode prog_14_method_44_code 17 = .ok (.ireturn, 1) := by decide +kernel
theorem d_Mo_edition_0 : decode prog_14_method_45_code 0 = .ok (.aload_n 0, 1) := by decide +kernel
theorem d_Mo_edition_1 : decode prog_14_method_45_code 1 = .ok (.iload_n 1, 1) := by decide +kernel
theorem d_Mo_edition_2 : decode prog_14_method_45_code 2 = .ok (.invokevirtual 77, 3) := by decide +kernel
theorem d_Mo_edition_5 : decode prog_14_method_45_code 5 = .ok (.ifCond .eq 12, 3) := by decide +kernel
theorem d_Mo_edition_8 : decode prog_14_method_45_code 8 = .ok (.aload_n 0, 1) := by decide +kernel
theorem d_Mo_edition_9 : decode prog_14_method_45_code 9 = .ok (.getfield 20, 3) := by decide +kernel
theorem d_Mo_edition_12 : decode prog_14_method_45_code 12 = .ok (.iload_n 1, 1) := by decide +kernel
theorem d_Mo_edition_13 : decode prog_14_method_45_code 13 = .ok (.iaload, 1) := by decide +kernel
theorem d_Mo_edition_14 : decode prog_14_method_45_code 14 = .ok (.goto 4, 3) := by decide +kernel
theorem d_Mo_edition_17 : decode prog_14_method_45_code 17 = .ok (.iconst 0, 1) := by decide +kernel
theorem d_Mo_edition_18 : decode prog_14_method_45_code 18 = .ok (.ireturn, 1) := by decide +kernel
theorem d_Mo_kept_0 : decode prog_14_method_46_code 0 = .ok (.aload_n 0, 1) := by decide +kernel
theorem d_Mo_kept_1 : decode prog_14_method_46_code 1 = .ok (.iload_n 1, 1) := by decide +kernel
theorem d_Mo_kept_2 : decode prog_14_method_46_code 2 = .ok (.invokevirtual 77, 3) := by decide +kernel
theorem d_Mo_kept_5 : decode prog_14_method_46_code 5 = .ok (.ifCond .ne 5, 3) := by decide +kernel
theorem d_Mo_kept_8 : decode prog_14_method_46_code 8 = .ok (.iconst 0, 1) := by decide +kernel
theorem d_Mo_kept_9 : decode prog_14_method_46_code 9 = .ok (.ireturn, 1) := by decide +kernel
theorem d_Mo_kept_10 : decode prog_14_method_46_code 10 = .ok (.iconst 0, 1) := by decide +kernel
theorem d_Mo_kept_11 : decode prog_14_method_46_code 11 = .ok (.istore_n 2, 1) := by decide +kernel
theorem d_Mo_kept_12 : decode prog_14_method_46_code 12 = .ok (.bipush 17, 2) := by decide +kernel
theorem d_Mo_kept_14 : decode prog_14_method_46_code 14 = .ok (.istore_n 3, 1) := by decide +kernel
theorem d_Mo_kept_15 : decode prog_14_method_46_code 15 = .ok (.iload_n 3, 1) := by decide +kernel
theorem d_Mo_kept_16 : decode prog_14_method_46_code 16 = .ok (.bipush 41, 2) := by decide +kernel
theorem d_Mo_kept_18 : decode prog_14_method_46_code 18 = .ok (.if_icmp .ge 35, 3) := by decide +kernel
theorem d_Mo_kept_21 : decode prog_14_method_46_code 21 = .ok (.iload_n 2, 1) := by decide +kernel
theorem d_Mo_kept_22 : decode prog_14_method_46_code 22 = .ok (.aload_n 0, 1) := by decide +kernel
theorem d_Mo_kept_23 : decode prog_14_method_46_code 23 = .ok (.getfield 26, 3) := by decide +kernel
theorem d_Mo_kept_26 : decode prog_14_method_46_code 26 = .ok (.iload_n 3, 1) := by decide +kernel
theorem d_Mo_kept_27 : decode prog_14_method_46_code 27 = .ok (.iaload, 1) := by decide +kernel
theorem d_Mo_kept_28 : decode prog_14_method_46_code 28 = .ok (.iload_n 1, 1) := by decide +kernel
theorem d_Mo_kept_29 : decode prog_14_method_46_code 29 = .ok (.if_icmp .ne 15, 3) := by decide +kernel
theorem d_Mo_kept_32 : decode prog_14_method_46_code 32 = .ok (.aload_n 0, 1) := by decide +kernel
theorem d_Mo_kept_33 : decode prog_14_method_46_code 33 = .ok (.iload_n 3, 1) := by decide +kernel
theorem d_Mo_kept_34 : decode prog_14_method_46_code 34 = .ok (.invokevirtual 131, 3) := by decide +kernel
theorem d_Mo_kept_37 : decode prog_14_method_46_code 37 = .ok (.ifCond .eq 7, 3) := by decide +kernel
theorem d_Mo_kept_40 : decode prog_14_method_46_code 40 = .ok (.iconst 1, 1) := by decide +kernel
theorem d_Mo_kept_41 : decode prog_14_method_46_code 41 = .ok (.goto 4, 3) := by decide +kernel
theorem d_Mo_kept_44 : decode prog_14_method_46_code 44 = .ok (.iconst 0, 1) := by decide +kernel
theorem d_Mo_kept_45 : decode prog_14_method_46_code 45 = .ok (.iadd, 1) := by decide +kernel
theorem d_Mo_kept_46 : decode prog_14_method_46_code 46 = .ok (.istore_n 2, 1) := by decide +kernel
theorem d_Mo_kept_47 : decode prog_14_method_46_code 47 = .ok (.iinc 3 1, 3) := by decide +kernel
theorem d_Mo_kept_50 : decode prog_14_method_46_code 50 = .ok (.goto (-35), 3) := by decide +kernel
theorem d_Mo_kept_53 : decode prog_14_method_46_code 53 = .ok (.iload_n 2, 1) := by decide +kernel
theorem d_Mo_kept_54 : decode prog_14_method_46_code 54 = .ok (.ireturn, 1) := by decide +kernel
end
section
/-! Decode rows of the law. -/
theorem d_Lw_law_0 : decode code 0 = .ok (.new 7, 3) := by decide +kernel
theorem d_Lw_law_3 : decode code 3 = .ok (.dup, 1) := by decide +kernel
theorem d_Lw_law_4 : decode code 4 = .ok (.invokespecial 9, 3) := by decide +kernel
theorem d_Lw_law_7 : decode code 7 = .ok (.astore_n 1, 1) := by decide +kernel
theorem d_Lw_law_8 : decode code 8 = .ok (.new 10, 3) := by decide +kernel
theorem d_Lw_law_11 : decode code 11 = .ok (.dup, 1) := by decide +kernel
theorem d_Lw_law_12 : decode code 12 = .ok (.invokespecial 12, 3) := by decide +kernel
theorem d_Lw_law_15 : decode code 15 = .ok (.astore_n 2, 1) := by decide +kernel
theorem d_Lw_law_16 : decode code 16 = .ok (.iconst 0, 1) := by decide +kernel
theorem d_Lw_law_17 : decode code 17 = .ok (.istore_n 3, 1) := by decide +kernel
theorem d_Lw_law_18 : decode code 18 = .ok (.iload_n 3, 1) := by decide +kernel
theorem d_Lw_law_19 : decode code 19 = .ok (.aload_n 0, 1) := by decide +kernel
theorem d_Lw_law_20 : decode code 20 = .ok (.arraylength, 1) := by decide +kernel
theorem d_Lw_law_21 : decode code 21 = .ok (.iconst 5, 1) := by decide +kernel
theorem d_Lw_law_22 : decode code 22 = .ok (.isub, 1) := by decide +kernel
theorem d_Lw_law_23 : decode code 23 = .ok (.if_icmp .gt 685, 3) := by decide +kernel
theorem d_Lw_law_26 : decode code 26 = .ok (.aload_n 0, 1) := by decide +kernel
theorem d_Lw_law_27 : decode code 27 = .ok (.iload_n 3, 1) := by decide +kernel
theorem d_Lw_law_28 : decode code 28 = .ok (.iaload, 1) := by decide +kernel
theorem d_Lw_law_29 : decode code 29 = .ok (.bipush 31, 2) := by decide +kernel
theorem d_Lw_law_31 : decode code 31 = .ok (.iand, 1) := by decide +kernel
theorem d_Lw_law_32 : decode code 32 = .ok (.tableswitch 670 0 19 #[96, 107, 130, 163, 186, 229, 262, 285, 328, 341, 410, 433, 456, 469, 492, 535, 568, 601, 624, 647], 96) := by decide +kernel
theorem d_Lw_law_128 : decode code 128 = .ok (.aload_n 1, 1) := by decide +kernel
theorem d_Lw_law_129 : decode code 129 = .ok (.invokevirtual 13, 3) := by decide +kernel
theorem d_Lw_law_132 : decode code 132 = .ok (.aload_n 2, 1) := by decide +kernel
theorem d_Lw_law_133 : decode code 133 = .ok (.invokevirtual 16, 3) := by decide +kernel
theorem d_Lw_law_136 : decode code 136 = .ok (.goto 566, 3) := by decide +kernel
theorem d_Lw_law_139 : decode code 139 = .ok (.aload_n 1, 1) := by decide +kernel
theorem d_Lw_law_140 : decode code 140 = .ok (.aload_n 0, 1) := by decide +kernel
theorem d_Lw_law_141 : decode code 141 = .ok (.iload_n 3, 1) := by decide +kernel
theorem d_Lw_law_142 : decode code 142 = .ok (.iconst 1, 1) := by decide +kernel
theorem d_Lw_law_143 : decode code 143 = .ok (.iadd, 1) := by decide +kernel
theorem d_Lw_law_144 : decode code 144 = .ok (.iaload, 1) := by decide +kernel
theorem d_Lw_law_145 : decode code 145 = .ok (.invokevirtual 17, 3) := by decide +kernel
theorem d_Lw_law_148 : decode code 148 = .ok (.aload_n 2, 1) := by decide +kernel
theorem d_Lw_law_149 : decode code 149 = .ok (.aload_n 0, 1) := by decide +kernel
theorem d_Lw_law_150 : decode code 150 = .ok (.iload_n 3, 1) := by decide +kernel
theorem d_Lw_law_151 : decode code 151 = .ok (.iconst 1, 1) := by decide +kernel
theorem d_Lw_law_152 : decode code 152 = .ok (.iadd, 1) := by decide +kernel
theorem d_Lw_law_153 : decode code 153 = .ok (.iaload, 1) := by decide +kernel
theorem d_Lw_law_154 : decode code 154 = .ok (.invokevirtual 21, 3) := by decide +kernel
theorem d_Lw_law_157 : decode code 157 = .ok (.if_icmp .eq 545, 3) := by decide +kernel
theorem d_Lw_law_160 : decode code 160 = .ok (.iconst 0, 1) := by decide +kernel
theorem d_Lw_law_161 : decode code 161 = .ok (.ireturn, 1) := by decide +kernel
theorem d_Lw_law_162 : decode code 162 = .ok (.aload_n 1, 1) := by decide +kernel
theorem d_Lw_law_163 : decode code 163 = .ok (.aload_n 0, 1) := by decide +kernel
theorem d_Lw_law_164 : decode code 164 = .ok (.iload_n 3, 1) := by decide +kernel
theorem d_Lw_law_165 : decode code 165 = .ok (.iconst 1, 1) := by decide +kernel
theorem d_Lw_law_166 : decode code 166 = .ok (.iadd, 1) := by decide +kernel
theorem d_Lw_law_167 : decode code 167 = .ok (.iaload, 1) := by decide +kernel
theorem d_Lw_law_168 : decode code 168 = .ok (.aload_n 0, 1) := by decide +kernel
theorem d_Lw_law_169 : decode code 169 = .ok (.iload_n 3, 1) := by decide +kernel
theorem d_Lw_law_170 : decode code 170 = .ok (.iconst 2, 1) := by decide +kernel
theorem d_Lw_law_171 : decode code 171 = .ok (.iadd, 1) := by decide +kernel
theorem d_Lw_law_172 : decode code 172 = .ok (.iaload, 1) := by decide +kernel
theorem d_Lw_law_173 : decode code 173 = .ok (.invokevirtual 22, 3) := by decide +kernel
theorem d_Lw_law_176 : decode code 176 = .ok (.aload_n 2, 1) := by decide +kernel
theorem d_Lw_law_177 : decode code 177 = .ok (.aload_n 0, 1) := by decide +kernel
theorem d_Lw_law_178 : decode code 178 = .ok (.iload_n 3, 1) := by decide +kernel
theorem d_Lw_law_179 : decode code 179 = .ok (.iconst 1, 1) := by decide +kernel
theorem d_Lw_law_180 : decode code 180 = .ok (.iadd, 1) := by decide +kernel
theorem d_Lw_law_181 : decode code 181 = .ok (.iaload, 1) := by decide +kernel
theorem d_Lw_law_182 : decode code 182 = .ok (.aload_n 0, 1) := by decide +kernel
theorem d_Lw_law_183 : decode code 183 = .ok (.iload_n 3, 1) := by decide +kernel
theorem d_Lw_law_184 : decode code 184 = .ok (.iconst 2, 1) := by decide +kernel
theorem d_Lw_law_185 : decode code 185 = .ok (.iadd, 1) := by decide +kernel
theorem d_Lw_law_186 : decode code 186 = .ok (.iaload, 1) := by decide +kernel
theorem d_Lw_law_187 : decode code 187 = .ok (.invokevirtual 26, 3) := by decide +kernel
theorem d_Lw_law_190 : decode code 190 = .ok (.if_icmp .eq 512, 3) := by decide +kernel
theorem d_Lw_law_193 : decode code 193 = .ok (.iconst 0, 1) := by decide +kernel
theorem d_Lw_law_194 : decode code 194 = .ok (.ireturn, 1) := by decide +kernel
theorem d_Lw_law_195 : decode code 195 = .ok (.aload_n 1, 1) := by decide +kernel
theorem d_Lw_law_196 : decode code 196 = .ok (.aload_n 0, 1) := by decide +kernel
theorem d_Lw_law_197 : decode code 197 = .ok (.iload_n 3, 1) := by decide +kernel
theorem d_Lw_law_198 : decode code 198 = .ok (.iconst 1, 1) := by decide +kernel
theorem d_Lw_law_199 : decode code 199 = .ok (.iadd, 1) := by decide +kernel
theorem d_Lw_law_200 : decode code 200 = .ok (.iaload, 1) := by decide +kernel
theorem d_Lw_law_201 : decode code 201 = .ok (.invokevirtual 27, 3) := by decide +kernel
theorem d_Lw_law_204 : decode code 204 = .ok (.aload_n 2, 1) := by decide +kernel
theorem d_Lw_law_205 : decode code 205 = .ok (.aload_n 0, 1) := by decide +kernel
theorem d_Lw_law_206 : decode code 206 = .ok (.iload_n 3, 1) := by decide +kernel
theorem d_Lw_law_207 : decode code 207 = .ok (.iconst 1, 1) := by decide +kernel
theorem d_Lw_law_208 : decode code 208 = .ok (.iadd, 1) := by decide +kernel
theorem d_Lw_law_209 : decode code 209 = .ok (.iaload, 1) := by decide +kernel
theorem d_Lw_law_210 : decode code 210 = .ok (.invokevirtual 30, 3) := by decide +kernel
theorem d_Lw_law_213 : decode code 213 = .ok (.if_icmp .eq 489, 3) := by decide +kernel
theorem d_Lw_law_216 : decode code 216 = .ok (.iconst 0, 1) := by decide +kernel
theorem d_Lw_law_217 : decode code 217 = .ok (.ireturn, 1) := by decide +kernel
theorem d_Lw_law_218 : decode code 218 = .ok (.aload_n 1, 1) := by decide +kernel
theorem d_Lw_law_219 : decode code 219 = .ok (.aload_n 0, 1) := by decide +kernel
theorem d_Lw_law_220 : decode code 220 = .ok (.iload_n 3, 1) := by decide +kernel
theorem d_Lw_law_221 : decode code 221 = .ok (.iconst 1, 1) := by decide +kernel
theorem d_Lw_law_222 : decode code 222 = .ok (.iadd, 1) := by decide +kernel
theorem d_Lw_law_223 : decode code 223 = .ok (.iaload, 1) := by decide +kernel
theorem d_Lw_law_224 : decode code 224 = .ok (.aload_n 0, 1) := by decide +kernel
theorem d_Lw_law_225 : decode code 225 = .ok (.iload_n 3, 1) := by decide +kernel
theorem d_Lw_law_226 : decode code 226 = .ok (.iconst 2, 1) := by decide +kernel
theorem d_Lw_law_227 : decode code 227 = .ok (.iadd, 1) := by decide +kernel
theorem d_Lw_law_228 : decode code 228 = .ok (.iaload, 1) := by decide +kernel
theorem d_Lw_law_229 : decode code 229 = .ok (.aload_n 0, 1) := by decide +kernel
theorem d_Lw_law_230 : decode code 230 = .ok (.iload_n 3, 1) := by decide +kernel
theorem d_Lw_law_231 : decode code 231 = .ok (.iconst 3, 1) := by decide +kernel
theorem d_Lw_law_232 : decode code 232 = .ok (.iadd, 1) := by decide +kernel
theorem d_Lw_law_233 : decode code 233 = .ok (.iaload, 1) := by decide +kernel
theorem d_Lw_law_234 : decode code 234 = .ok (.invokevirtual 31, 3) := by decide +kernel
theorem d_Lw_law_237 : decode code 237 = .ok (.aload_n 2, 1) := by decide +kernel
theorem d_Lw_law_238 : decode code 238 = .ok (.aload_n 0, 1) := by decide +kernel
theorem d_Lw_law_239 : decode code 239 = .ok (.iload_n 3, 1) := by decide +kernel
theorem d_Lw_law_240 : decode code 240 = .ok (.iconst 1, 1) := by decide +kernel
theorem d_Lw_law_241 : decode code 241 = .ok (.iadd, 1) := by decide +kernel
theorem d_Lw_law_242 : decode code 242 = .ok (.iaload, 1) := by decide +kernel
theorem d_Lw_law_243 : decode code 243 = .ok (.aload_n 0, 1) := by decide +kernel
theorem d_Lw_law_244 : decode code 244 = .ok (.iload_n 3, 1) := by decide +kernel
theorem d_Lw_law_245 : decode code 245 = .ok (.iconst 2, 1) := by decide +kernel
theorem d_Lw_law_246 : decode code 246 = .ok (.iadd, 1) := by decide +kernel
theorem d_Lw_law_247 : decode code 247 = .ok (.iaload, 1) := by decide +kernel
theorem d_Lw_law_248 : decode code 248 = .ok (.aload_n 0, 1) := by decide +kernel
theorem d_Lw_law_249 : decode code 249 = .ok (.iload_n 3, 1) := by decide +kernel
theorem d_Lw_law_250 : decode code 250 = .ok (.iconst 3, 1) := by decide +kernel
theorem d_Lw_law_251 : decode code 251 = .ok (.iadd, 1) := by decide +kernel
theorem d_Lw_law_252 : decode code 252 = .ok (.iaload, 1) := by decide +kernel
theorem d_Lw_law_253 : decode code 253 = .ok (.invokevirtual 35, 3) := by decide +kernel
theorem d_Lw_law_256 : decode code 256 = .ok (.if_icmp .eq 446, 3) := by decide +kernel
theorem d_Lw_law_259 : decode code 259 = .ok (.iconst 0, 1) := by decide +kernel
theorem d_Lw_law_260 : decode code 260 = .ok (.ireturn, 1) := by decide +kernel
theorem d_Lw_law_261 : decode code 261 = .ok (.aload_n 1, 1) := by decide +kernel
theorem d_Lw_law_262 : decode code 262 = .ok (.aload_n 0, 1) := by decide +kernel
theorem d_Lw_law_263 : decode code 263 = .ok (.iload_n 3, 1) := by decide +kernel
theorem d_Lw_law_264 : decode code 264 = .ok (.iconst 1, 1) := by decide +kernel
theorem d_Lw_law_265 : decode code 265 = .ok (.iadd, 1) := by decide +kernel
theorem d_Lw_law_266 : decode code 266 = .ok (.iaload, 1) := by decide +kernel
theorem d_Lw_law_267 : decode code 267 = .ok (.aload_n 0, 1) := by decide +kernel
theorem d_Lw_law_268 : decode code 268 = .ok (.iload_n 3, 1) := by decide +kernel
theorem d_Lw_law_269 : decode code 269 = .ok (.iconst 2, 1) := by decide +kernel
theorem d_Lw_law_270 : decode code 270 = .ok (.iadd, 1) := by decide +kernel
theorem d_Lw_law_271 : decode code 271 = .ok (.iaload, 1) := by decide +kernel
theorem d_Lw_law_272 : decode code 272 = .ok (.invokevirtual 36, 3) := by decide +kernel
theorem d_Lw_law_275 : decode code 275 = .ok (.aload_n 2, 1) := by decide +kernel
theorem d_Lw_law_276 : decode code 276 = .ok (.aload_n 0, 1) := by decide +kernel
theorem d_Lw_law_277 : decode code 277 = .ok (.iload_n 3, 1) := by decide +kernel
theorem d_Lw_law_278 : decode code 278 = .ok (.iconst 1, 1) := by decide +kernel
theorem d_Lw_law_279 : decode code 279 = .ok (.iadd, 1) := by decide +kernel
theorem d_Lw_law_280 : decode code 280 = .ok (.iaload, 1) := by decide +kernel
theorem d_Lw_law_281 : decode code 281 = .ok (.aload_n 0, 1) := by decide +kernel
theorem d_Lw_law_282 : decode code 282 = .ok (.iload_n 3, 1) := by decide +kernel
theorem d_Lw_law_283 : decode code 283 = .ok (.iconst 2, 1) := by decide +kernel
theorem d_Lw_law_284 : decode code 284 = .ok (.iadd, 1) := by decide +kernel
theorem d_Lw_law_285 : decode code 285 = .ok (.iaload, 1) := by decide +kernel
theorem d_Lw_law_286 : decode code 286 = .ok (.invokevirtual 39, 3) := by decide +kernel
theorem d_Lw_law_289 : decode code 289 = .ok (.if_icmp .eq 413, 3) := by decide +kernel
theorem d_Lw_law_292 : decode code 292 = .ok (.iconst 0, 1) := by decide +kernel
theorem d_Lw_law_293 : decode code 293 = .ok (.ireturn, 1) := by decide +kernel
theorem d_Lw_law_294 : decode code 294 = .ok (.aload_n 1, 1) := by decide +kernel
theorem d_Lw_law_295 : decode code 295 = .ok (.aload_n 0, 1) := by decide +kernel
theorem d_Lw_law_296 : decode code 296 = .ok (.iload_n 3, 1) := by decide +kernel
theorem d_Lw_law_297 : decode code 297 = .ok (.iconst 1, 1) := by decide +kernel
theorem d_Lw_law_298 : decode code 298 = .ok (.iadd, 1) := by decide +kernel
theorem d_Lw_law_299 : decode code 299 = .ok (.iaload, 1) := by decide +kernel
theorem d_Lw_law_300 : decode code 300 = .ok (.invokevirtual 40, 3) := by decide +kernel
theorem d_Lw_law_303 : decode code 303 = .ok (.aload_n 2, 1) := by decide +kernel
theorem d_Lw_law_304 : decode code 304 = .ok (.aload_n 0, 1) := by decide +kernel
theorem d_Lw_law_305 : decode code 305 = .ok (.iload_n 3, 1) := by decide +kernel
theorem d_Lw_law_306 : decode code 306 = .ok (.iconst 1, 1) := by decide +kernel
theorem d_Lw_law_307 : decode code 307 = .ok (.iadd, 1) := by decide +kernel
theorem d_Lw_law_308 : decode code 308 = .ok (.iaload, 1) := by decide +kernel
theorem d_Lw_law_309 : decode code 309 = .ok (.invokevirtual 43, 3) := by decide +kernel
theorem d_Lw_law_312 : decode code 312 = .ok (.if_icmp .eq 390, 3) := by decide +kernel
theorem d_Lw_law_315 : decode code 315 = .ok (.iconst 0, 1) := by decide +kernel
theorem d_Lw_law_316 : decode code 316 = .ok (.ireturn, 1) := by decide +kernel
theorem d_Lw_law_317 : decode code 317 = .ok (.aload_n 1, 1) := by decide +kernel
theorem d_Lw_law_318 : decode code 318 = .ok (.aload_n 0, 1) := by decide +kernel
theorem d_Lw_law_319 : decode code 319 = .ok (.iload_n 3, 1) := by decide +kernel
theorem d_Lw_law_320 : decode code 320 = .ok (.iconst 1, 1) := by decide +kernel
theorem d_Lw_law_321 : decode code 321 = .ok (.iadd, 1) := by decide +kernel
theorem d_Lw_law_322 : decode code 322 = .ok (.iaload, 1) := by decide +kernel
theorem d_Lw_law_323 : decode code 323 = .ok (.aload_n 0, 1) := by decide +kernel
theorem d_Lw_law_324 : decode code 324 = .ok (.iload_n 3, 1) := by decide +kernel
theorem d_Lw_law_325 : decode code 325 = .ok (.iconst 2, 1) := by decide +kernel
theorem d_Lw_law_326 : decode code 326 = .ok (.iadd, 1) := by decide +kernel
theorem d_Lw_law_327 : decode code 327 = .ok (.iaload, 1) := by decide +kernel
theorem d_Lw_law_328 : decode code 328 = .ok (.aload_n 0, 1) := by decide +kernel
theorem d_Lw_law_329 : decode code 329 = .ok (.iload_n 3, 1) := by decide +kernel
theorem d_Lw_law_330 : decode code 330 = .ok (.iconst 3, 1) := by decide +kernel
theorem d_Lw_law_331 : decode code 331 = .ok (.iadd, 1) := by decide +kernel
theorem d_Lw_law_332 : decode code 332 = .ok (.iaload, 1) := by decide +kernel
theorem d_Lw_law_333 : decode code 333 = .ok (.invokevirtual 44, 3) := by decide +kernel
theorem d_Lw_law_336 : decode code 336 = .ok (.aload_n 2, 1) := by decide +kernel
theorem d_Lw_law_337 : decode code 337 = .ok (.aload_n 0, 1) := by decide +kernel
theorem d_Lw_law_338 : decode code 338 = .ok (.iload_n 3, 1) := by decide +kernel
theorem d_Lw_law_339 : decode code 339 = .ok (.iconst 1, 1) := by decide +kernel
theorem d_Lw_law_340 : decode code 340 = .ok (.iadd, 1) := by decide +kernel
theorem d_Lw_law_341 : decode code 341 = .ok (.iaload, 1) := by decide +kernel
theorem d_Lw_law_342 : decode code 342 = .ok (.aload_n 0, 1) := by decide +kernel
theorem d_Lw_law_343 : decode code 343 = .ok (.iload_n 3, 1) := by decide +kernel
theorem d_Lw_law_344 : decode code 344 = .ok (.iconst 2, 1) := by decide +kernel
theorem d_Lw_law_345 : decode code 345 = .ok (.iadd, 1) := by decide +kernel
theorem d_Lw_law_346 : decode code 346 = .ok (.iaload, 1) := by decide +kernel
theorem d_Lw_law_347 : decode code 347 = .ok (.aload_n 0, 1) := by decide +kernel
theorem d_Lw_law_348 : decode code 348 = .ok (.iload_n 3, 1) := by decide +kernel
theorem d_Lw_law_349 : decode code 349 = .ok (.iconst 3, 1) := by decide +kernel
theorem d_Lw_law_350 : decode code 350 = .ok (.iadd, 1) := by decide +kernel
theorem d_Lw_law_351 : decode code 351 = .ok (.iaload, 1) := by decide +kernel
theorem d_Lw_law_352 : decode code 352 = .ok (.invokevirtual 47, 3) := by decide +kernel
theorem d_Lw_law_355 : decode code 355 = .ok (.if_icmp .eq 347, 3) := by decide +kernel
theorem d_Lw_law_358 : decode code 358 = .ok (.iconst 0, 1) := by decide +kernel
theorem d_Lw_law_359 : decode code 359 = .ok (.ireturn, 1) := by decide +kernel
theorem d_Lw_law_360 : decode code 360 = .ok (.aload_n 1, 1) := by decide +kernel
theorem d_Lw_law_361 : decode code 361 = .ok (.invokevirtual 48, 3) := by decide +kernel
theorem d_Lw_law_364 : decode code 364 = .ok (.aload_n 2, 1) := by decide +kernel
theorem d_Lw_law_365 : decode code 365 = .ok (.invokevirtual 52, 3) := by decide +kernel
theorem d_Lw_law_368 : decode code 368 = .ok (.if_icmp .eq 334, 3) := by decide +kernel
theorem d_Lw_law_371 : decode code 371 = .ok (.iconst 0, 1) := by decide +kernel
theorem d_Lw_law_372 : decode code 372 = .ok (.ireturn, 1) := by decide +kernel
theorem d_Lw_law_373 : decode code 373 = .ok (.aload_n 1, 1) := by decide +kernel
theorem d_Lw_law_374 : decode code 374 = .ok (.aload_n 0, 1) := by decide +kernel
theorem d_Lw_law_375 : decode code 375 = .ok (.iload_n 3, 1) := by decide +kernel
theorem d_Lw_law_376 : decode code 376 = .ok (.iconst 1, 1) := by decide +kernel
theorem d_Lw_law_377 : decode code 377 = .ok (.iadd, 1) := by decide +kernel
theorem d_Lw_law_378 : decode code 378 = .ok (.iaload, 1) := by decide +kernel
theorem d_Lw_law_379 : decode code 379 = .ok (.aload_n 0, 1) := by decide +kernel
theorem d_Lw_law_380 : decode code 380 = .ok (.iload_n 3, 1) := by decide +kernel
theorem d_Lw_law_381 : decode code 381 = .ok (.iconst 2, 1) := by decide +kernel
theorem d_Lw_law_382 : decode code 382 = .ok (.iadd, 1) := by decide +kernel
theorem d_Lw_law_383 : decode code 383 = .ok (.iaload, 1) := by decide +kernel
theorem d_Lw_law_384 : decode code 384 = .ok (.aload_n 0, 1) := by decide +kernel
theorem d_Lw_law_385 : decode code 385 = .ok (.iload_n 3, 1) := by decide +kernel
theorem d_Lw_law_386 : decode code 386 = .ok (.iconst 3, 1) := by decide +kernel
theorem d_Lw_law_387 : decode code 387 = .ok (.iadd, 1) := by decide +kernel
theorem d_Lw_law_388 : decode code 388 = .ok (.iaload, 1) := by decide +kernel
theorem d_Lw_law_389 : decode code 389 = .ok (.aload_n 0, 1) := by decide +kernel
theorem d_Lw_law_390 : decode code 390 = .ok (.iload_n 3, 1) := by decide +kernel
theorem d_Lw_law_391 : decode code 391 = .ok (.iconst 4, 1) := by decide +kernel
theorem d_Lw_law_392 : decode code 392 = .ok (.iadd, 1) := by decide +kernel
theorem d_Lw_law_393 : decode code 393 = .ok (.iaload, 1) := by decide +kernel
theorem d_Lw_law_394 : decode code 394 = .ok (.ifCond .eq 7, 3) := by decide +kernel
theorem d_Lw_law_397 : decode code 397 = .ok (.iconst 1, 1) := by decide +kernel
theorem d_Lw_law_398 : decode code 398 = .ok (.goto 4, 3) := by decide +kernel
theorem d_Lw_law_401 : decode code 401 = .ok (.iconst 0, 1) := by decide +kernel
theorem d_Lw_law_402 : decode code 402 = .ok (.invokevirtual 53, 3) := by decide +kernel
theorem d_Lw_law_405 : decode code 405 = .ok (.aload_n 2, 1) := by decide +kernel
theorem d_Lw_law_406 : decode code 406 = .ok (.aload_n 0, 1) := by decide +kernel
theorem d_Lw_law_407 : decode code 407 = .ok (.iload_n 3, 1) := by decide +kernel
theorem d_Lw_law_408 : decode code 408 = .ok (.iconst 1, 1) := by decide +kernel
theorem d_Lw_law_409 : decode code 409 = .ok (.iadd, 1) := by decide +kernel
theorem d_Lw_law_410 : decode code 410 = .ok (.iaload, 1) := by decide +kernel
theorem d_Lw_law_411 : decode code 411 = .ok (.aload_n 0, 1) := by decide +kernel
theorem d_Lw_law_412 : decode code 412 = .ok (.iload_n 3, 1) := by decide +kernel
theorem d_Lw_law_413 : decode code 413 = .ok (.iconst 2, 1) := by decide +kernel
theorem d_Lw_law_414 : decode code 414 = .ok (.iadd, 1) := by decide +kernel
theorem d_Lw_law_415 : decode code 415 = .ok (.iaload, 1) := by decide +kernel
theorem d_Lw_law_416 : decode code 416 = .ok (.aload_n 0, 1) := by decide +kernel
theorem d_Lw_law_417 : decode code 417 = .ok (.iload_n 3, 1) := by decide +kernel
theorem d_Lw_law_418 : decode code 418 = .ok (.iconst 3, 1) := by decide +kernel
theorem d_Lw_law_419 : decode code 419 = .ok (.iadd, 1) := by decide +kernel
theorem d_Lw_law_420 : decode code 420 = .ok (.iaload, 1) := by decide +kernel
theorem d_Lw_law_421 : decode code 421 = .ok (.aload_n 0, 1) := by decide +kernel
theorem d_Lw_law_422 : decode code 422 = .ok (.iload_n 3, 1) := by decide +kernel
theorem d_Lw_law_423 : decode code 423 = .ok (.iconst 4, 1) := by decide +kernel
theorem d_Lw_law_424 : decode code 424 = .ok (.iadd, 1) := by decide +kernel
theorem d_Lw_law_425 : decode code 425 = .ok (.iaload, 1) := by decide +kernel
theorem d_Lw_law_426 : decode code 426 = .ok (.ifCond .eq 7, 3) := by decide +kernel
theorem d_Lw_law_429 : decode code 429 = .ok (.iconst 1, 1) := by decide +kernel
theorem d_Lw_law_430 : decode code 430 = .ok (.goto 4, 3) := by decide +kernel
theorem d_Lw_law_433 : decode code 433 = .ok (.iconst 0, 1) := by decide +kernel
theorem d_Lw_law_434 : decode code 434 = .ok (.invokevirtual 57, 3) := by decide +kernel
theorem d_Lw_law_437 : decode code 437 = .ok (.if_icmp .eq 265, 3) := by decide +kernel
theorem d_Lw_law_440 : decode code 440 = .ok (.iconst 0, 1) := by decide +kernel
theorem d_Lw_law_441 : decode code 441 = .ok (.ireturn, 1) := by decide +kernel
theorem d_Lw_law_442 : decode code 442 = .ok (.aload_n 1, 1) := by decide +kernel
theorem d_Lw_law_443 : decode code 443 = .ok (.aload_n 0, 1) := by decide +kernel
theorem d_Lw_law_444 : decode code 444 = .ok (.iload_n 3, 1) := by decide +kernel
theorem d_Lw_law_445 : decode code 445 = .ok (.iconst 1, 1) := by decide +kernel
theorem d_Lw_law_446 : decode code 446 = .ok (.iadd, 1) := by decide +kernel
theorem d_Lw_law_447 : decode code 447 = .ok (.iaload, 1) := by decide +kernel
theorem d_Lw_law_448 : decode code 448 = .ok (.invokevirtual 58, 3) := by decide +kernel
theorem d_Lw_law_451 : decode code 451 = .ok (.aload_n 2, 1) := by decide +kernel
theorem d_Lw_law_452 : decode code 452 = .ok (.aload_n 0, 1) := by decide +kernel
theorem d_Lw_law_453 : decode code 453 = .ok (.iload_n 3, 1) := by decide +kernel
theorem d_Lw_law_454 : decode code 454 = .ok (.iconst 1, 1) := by decide +kernel
theorem d_Lw_law_455 : decode code 455 = .ok (.iadd, 1) := by decide +kernel
theorem d_Lw_law_456 : decode code 456 = .ok (.iaload, 1) := by decide +kernel
theorem d_Lw_law_457 : decode code 457 = .ok (.invokevirtual 61, 3) := by decide +kernel
theorem d_Lw_law_460 : decode code 460 = .ok (.if_icmp .eq 242, 3) := by decide +kernel
theorem d_Lw_law_463 : decode code 463 = .ok (.iconst 0, 1) := by decide +kernel
theorem d_Lw_law_464 : decode code 464 = .ok (.ireturn, 1) := by decide +kernel
theorem d_Lw_law_465 : decode code 465 = .ok (.aload_n 1, 1) := by decide +kernel
theorem d_Lw_law_466 : decode code 466 = .ok (.aload_n 0, 1) := by decide +kernel
theorem d_Lw_law_467 : decode code 467 = .ok (.iload_n 3, 1) := by decide +kernel
theorem d_Lw_law_468 : decode code 468 = .ok (.iconst 1, 1) := by decide +kernel
theorem d_Lw_law_469 : decode code 469 = .ok (.iadd, 1) := by decide +kernel
theorem d_Lw_law_470 : decode code 470 = .ok (.iaload, 1) := by decide +kernel
theorem d_Lw_law_471 : decode code 471 = .ok (.invokevirtual 62, 3) := by decide +kernel
theorem d_Lw_law_474 : decode code 474 = .ok (.aload_n 2, 1) := by decide +kernel
theorem d_Lw_law_475 : decode code 475 = .ok (.aload_n 0, 1) := by decide +kernel
theorem d_Lw_law_476 : decode code 476 = .ok (.iload_n 3, 1) := by decide +kernel
theorem d_Lw_law_477 : decode code 477 = .ok (.iconst 1, 1) := by decide +kernel
theorem d_Lw_law_478 : decode code 478 = .ok (.iadd, 1) := by decide +kernel
theorem d_Lw_law_479 : decode code 479 = .ok (.iaload, 1) := by decide +kernel
theorem d_Lw_law_480 : decode code 480 = .ok (.invokevirtual 65, 3) := by decide +kernel
theorem d_Lw_law_483 : decode code 483 = .ok (.if_icmp .eq 219, 3) := by decide +kernel
theorem d_Lw_law_486 : decode code 486 = .ok (.iconst 0, 1) := by decide +kernel
theorem d_Lw_law_487 : decode code 487 = .ok (.ireturn, 1) := by decide +kernel
theorem d_Lw_law_488 : decode code 488 = .ok (.aload_n 1, 1) := by decide +kernel
theorem d_Lw_law_489 : decode code 489 = .ok (.invokevirtual 66, 3) := by decide +kernel
theorem d_Lw_law_492 : decode code 492 = .ok (.aload_n 2, 1) := by decide +kernel
theorem d_Lw_law_493 : decode code 493 = .ok (.invokevirtual 69, 3) := by decide +kernel
theorem d_Lw_law_496 : decode code 496 = .ok (.if_icmp .eq 206, 3) := by decide +kernel
theorem d_Lw_law_499 : decode code 499 = .ok (.iconst 0, 1) := by decide +kernel
theorem d_Lw_law_500 : decode code 500 = .ok (.ireturn, 1) := by decide +kernel
theorem d_Lw_law_501 : decode code 501 = .ok (.aload_n 1, 1) := by decide +kernel
theorem d_Lw_law_502 : decode code 502 = .ok (.aload_n 0, 1) := by decide +kernel
theorem d_Lw_law_503 : decode code 503 = .ok (.iload_n 3, 1) := by decide +kernel
theorem d_Lw_law_504 : decode code 504 = .ok (.iconst 1, 1) := by decide +kernel
theorem d_Lw_law_505 : decode code 505 = .ok (.iadd, 1) := by decide +kernel
theorem d_Lw_law_506 : decode code 506 = .ok (.iaload, 1) := by decide +kernel
theorem d_Lw_law_507 : decode code 507 = .ok (.invokevirtual 70, 3) := by decide +kernel
theorem d_Lw_law_510 : decode code 510 = .ok (.aload_n 2, 1) := by decide +kernel
theorem d_Lw_law_511 : decode code 511 = .ok (.aload_n 0, 1) := by decide +kernel
theorem d_Lw_law_512 : decode code 512 = .ok (.iload_n 3, 1) := by decide +kernel
theorem d_Lw_law_513 : decode code 513 = .ok (.iconst 1, 1) := by decide +kernel
theorem d_Lw_law_514 : decode code 514 = .ok (.iadd, 1) := by decide +kernel
theorem d_Lw_law_515 : decode code 515 = .ok (.iaload, 1) := by decide +kernel
theorem d_Lw_law_516 : decode code 516 = .ok (.invokevirtual 74, 3) := by decide +kernel
theorem d_Lw_law_519 : decode code 519 = .ok (.if_icmp .eq 183, 3) := by decide +kernel
theorem d_Lw_law_522 : decode code 522 = .ok (.iconst 0, 1) := by decide +kernel
theorem d_Lw_law_523 : decode code 523 = .ok (.ireturn, 1) := by decide +kernel
theorem d_Lw_law_524 : decode code 524 = .ok (.aload_n 1, 1) := by decide +kernel
theorem d_Lw_law_525 : decode code 525 = .ok (.aload_n 0, 1) := by decide +kernel
theorem d_Lw_law_526 : decode code 526 = .ok (.iload_n 3, 1) := by decide +kernel
theorem d_Lw_law_527 : decode code 527 = .ok (.iconst 1, 1) := by decide +kernel
theorem d_Lw_law_528 : decode code 528 = .ok (.iadd, 1) := by decide +kernel
theorem d_Lw_law_529 : decode code 529 = .ok (.iaload, 1) := by decide +kernel
theorem d_Lw_law_530 : decode code 530 = .ok (.aload_n 0, 1) := by decide +kernel
theorem d_Lw_law_531 : decode code 531 = .ok (.iload_n 3, 1) := by decide +kernel
theorem d_Lw_law_532 : decode code 532 = .ok (.iconst 2, 1) := by decide +kernel
theorem d_Lw_law_533 : decode code 533 = .ok (.iadd, 1) := by decide +kernel
theorem d_Lw_law_534 : decode code 534 = .ok (.iaload, 1) := by decide +kernel
theorem d_Lw_law_535 : decode code 535 = .ok (.aload_n 0, 1) := by decide +kernel
theorem d_Lw_law_536 : decode code 536 = .ok (.iload_n 3, 1) := by decide +kernel
theorem d_Lw_law_537 : decode code 537 = .ok (.iconst 3, 1) := by decide +kernel
theorem d_Lw_law_538 : decode code 538 = .ok (.iadd, 1) := by decide +kernel
theorem d_Lw_law_539 : decode code 539 = .ok (.iaload, 1) := by decide +kernel
theorem d_Lw_law_540 : decode code 540 = .ok (.invokevirtual 75, 3) := by decide +kernel
theorem d_Lw_law_543 : decode code 543 = .ok (.aload_n 2, 1) := by decide +kernel
theorem d_Lw_law_544 : decode code 544 = .ok (.aload_n 0, 1) := by decide +kernel
theorem d_Lw_law_545 : decode code 545 = .ok (.iload_n 3, 1) := by decide +kernel
theorem d_Lw_law_546 : decode code 546 = .ok (.iconst 1, 1) := by decide +kernel
theorem d_Lw_law_547 : decode code 547 = .ok (.iadd, 1) := by decide +kernel
theorem d_Lw_law_548 : decode code 548 = .ok (.iaload, 1) := by decide +kernel
theorem d_Lw_law_549 : decode code 549 = .ok (.aload_n 0, 1) := by decide +kernel
theorem d_Lw_law_550 : decode code 550 = .ok (.iload_n 3, 1) := by decide +kernel
theorem d_Lw_law_551 : decode code 551 = .ok (.iconst 2, 1) := by decide +kernel
theorem d_Lw_law_552 : decode code 552 = .ok (.iadd, 1) := by decide +kernel
theorem d_Lw_law_553 : decode code 553 = .ok (.iaload, 1) := by decide +kernel
theorem d_Lw_law_554 : decode code 554 = .ok (.aload_n 0, 1) := by decide +kernel
theorem d_Lw_law_555 : decode code 555 = .ok (.iload_n 3, 1) := by decide +kernel
theorem d_Lw_law_556 : decode code 556 = .ok (.iconst 3, 1) := by decide +kernel
theorem d_Lw_law_557 : decode code 557 = .ok (.iadd, 1) := by decide +kernel
theorem d_Lw_law_558 : decode code 558 = .ok (.iaload, 1) := by decide +kernel
theorem d_Lw_law_559 : decode code 559 = .ok (.invokevirtual 78, 3) := by decide +kernel
theorem d_Lw_law_562 : decode code 562 = .ok (.if_icmp .eq 140, 3) := by decide +kernel
theorem d_Lw_law_565 : decode code 565 = .ok (.iconst 0, 1) := by decide +kernel
theorem d_Lw_law_566 : decode code 566 = .ok (.ireturn, 1) := by decide +kernel
theorem d_Lw_law_567 : decode code 567 = .ok (.aload_n 1, 1) := by decide +kernel
theorem d_Lw_law_568 : decode code 568 = .ok (.aload_n 0, 1) := by decide +kernel
theorem d_Lw_law_569 : decode code 569 = .ok (.iload_n 3, 1) := by decide +kernel
theorem d_Lw_law_570 : decode code 570 = .ok (.iconst 1, 1) := by decide +kernel
theorem d_Lw_law_571 : decode code 571 = .ok (.iadd, 1) := by decide +kernel
theorem d_Lw_law_572 : decode code 572 = .ok (.iaload, 1) := by decide +kernel
theorem d_Lw_law_573 : decode code 573 = .ok (.aload_n 0, 1) := by decide +kernel
theorem d_Lw_law_574 : decode code 574 = .ok (.iload_n 3, 1) := by decide +kernel
theorem d_Lw_law_575 : decode code 575 = .ok (.iconst 2, 1) := by decide +kernel
theorem d_Lw_law_576 : decode code 576 = .ok (.iadd, 1) := by decide +kernel
theorem d_Lw_law_577 : decode code 577 = .ok (.iaload, 1) := by decide +kernel
theorem d_Lw_law_578 : decode code 578 = .ok (.invokevirtual 79, 3) := by decide +kernel
theorem d_Lw_law_581 : decode code 581 = .ok (.aload_n 2, 1) := by decide +kernel
theorem d_Lw_law_582 : decode code 582 = .ok (.aload_n 0, 1) := by decide +kernel
theorem d_Lw_law_583 : decode code 583 = .ok (.iload_n 3, 1) := by decide +kernel
theorem d_Lw_law_584 : decode code 584 = .ok (.iconst 1, 1) := by decide +kernel
theorem d_Lw_law_585 : decode code 585 = .ok (.iadd, 1) := by decide +kernel
theorem d_Lw_law_586 : decode code 586 = .ok (.iaload, 1) := by decide +kernel
theorem d_Lw_law_587 : decode code 587 = .ok (.aload_n 0, 1) := by decide +kernel
theorem d_Lw_law_588 : decode code 588 = .ok (.iload_n 3, 1) := by decide +kernel
theorem d_Lw_law_589 : decode code 589 = .ok (.iconst 2, 1) := by decide +kernel
theorem d_Lw_law_590 : decode code 590 = .ok (.iadd, 1) := by decide +kernel
theorem d_Lw_law_591 : decode code 591 = .ok (.iaload, 1) := by decide +kernel
theorem d_Lw_law_592 : decode code 592 = .ok (.invokevirtual 83, 3) := by decide +kernel
theorem d_Lw_law_595 : decode code 595 = .ok (.if_icmp .eq 107, 3) := by decide +kernel
theorem d_Lw_law_598 : decode code 598 = .ok (.iconst 0, 1) := by decide +kernel
theorem d_Lw_law_599 : decode code 599 = .ok (.ireturn, 1) := by decide +kernel
theorem d_Lw_law_600 : decode code 600 = .ok (.aload_n 1, 1) := by decide +kernel
theorem d_Lw_law_601 : decode code 601 = .ok (.aload_n 0, 1) := by decide +kernel
theorem d_Lw_law_602 : decode code 602 = .ok (.iload_n 3, 1) := by decide +kernel
theorem d_Lw_law_603 : decode code 603 = .ok (.iconst 1, 1) := by decide +kernel
theorem d_Lw_law_604 : decode code 604 = .ok (.iadd, 1) := by decide +kernel
theorem d_Lw_law_605 : decode code 605 = .ok (.iaload, 1) := by decide +kernel
theorem d_Lw_law_606 : decode code 606 = .ok (.aload_n 0, 1) := by decide +kernel
theorem d_Lw_law_607 : decode code 607 = .ok (.iload_n 3, 1) := by decide +kernel
theorem d_Lw_law_608 : decode code 608 = .ok (.iconst 2, 1) := by decide +kernel
theorem d_Lw_law_609 : decode code 609 = .ok (.iadd, 1) := by decide +kernel
theorem d_Lw_law_610 : decode code 610 = .ok (.iaload, 1) := by decide +kernel
theorem d_Lw_law_611 : decode code 611 = .ok (.invokevirtual 84, 3) := by decide +kernel
theorem d_Lw_law_614 : decode code 614 = .ok (.aload_n 2, 1) := by decide +kernel
theorem d_Lw_law_615 : decode code 615 = .ok (.aload_n 0, 1) := by decide +kernel
theorem d_Lw_law_616 : decode code 616 = .ok (.iload_n 3, 1) := by decide +kernel
theorem d_Lw_law_617 : decode code 617 = .ok (.iconst 1, 1) := by decide +kernel
theorem d_Lw_law_618 : decode code 618 = .ok (.iadd, 1) := by decide +kernel
theorem d_Lw_law_619 : decode code 619 = .ok (.iaload, 1) := by decide +kernel
theorem d_Lw_law_620 : decode code 620 = .ok (.aload_n 0, 1) := by decide +kernel
theorem d_Lw_law_621 : decode code 621 = .ok (.iload_n 3, 1) := by decide +kernel
theorem d_Lw_law_622 : decode code 622 = .ok (.iconst 2, 1) := by decide +kernel
theorem d_Lw_law_623 : decode code 623 = .ok (.iadd, 1) := by decide +kernel
theorem d_Lw_law_624 : decode code 624 = .ok (.iaload, 1) := by decide +kernel
theorem d_Lw_law_625 : decode code 625 = .ok (.invokevirtual 87, 3) := by decide +kernel
theorem d_Lw_law_628 : decode code 628 = .ok (.if_icmp .eq 74, 3) := by decide +kernel
theorem d_Lw_law_631 : decode code 631 = .ok (.iconst 0, 1) := by decide +kernel
theorem d_Lw_law_632 : decode code 632 = .ok (.ireturn, 1) := by decide +kernel
theorem d_Lw_law_633 : decode code 633 = .ok (.aload_n 1, 1) := by decide +kernel
theorem d_Lw_law_634 : decode code 634 = .ok (.aload_n 0, 1) := by decide +kernel
theorem d_Lw_law_635 : decode code 635 = .ok (.iload_n 3, 1) := by decide +kernel
theorem d_Lw_law_636 : decode code 636 = .ok (.iconst 1, 1) := by decide +kernel
theorem d_Lw_law_637 : decode code 637 = .ok (.iadd, 1) := by decide +kernel
theorem d_Lw_law_638 : decode code 638 = .ok (.iaload, 1) := by decide +kernel
theorem d_Lw_law_639 : decode code 639 = .ok (.invokevirtual 88, 3) := by decide +kernel
theorem d_Lw_law_642 : decode code 642 = .ok (.aload_n 2, 1) := by decide +kernel
theorem d_Lw_law_643 : decode code 643 = .ok (.aload_n 0, 1) := by decide +kernel
theorem d_Lw_law_644 : decode code 644 = .ok (.iload_n 3, 1) := by decide +kernel
theorem d_Lw_law_645 : decode code 645 = .ok (.iconst 1, 1) := by decide +kernel
theorem d_Lw_law_646 : decode code 646 = .ok (.iadd, 1) := by decide +kernel
theorem d_Lw_law_647 : decode code 647 = .ok (.iaload, 1) := by decide +kernel
theorem d_Lw_law_648 : decode code 648 = .ok (.invokevirtual 91, 3) := by decide +kernel
theorem d_Lw_law_651 : decode code 651 = .ok (.if_icmp .eq 51, 3) := by decide +kernel
theorem d_Lw_law_654 : decode code 654 = .ok (.iconst 0, 1) := by decide +kernel
theorem d_Lw_law_655 : decode code 655 = .ok (.ireturn, 1) := by decide +kernel
theorem d_Lw_law_656 : decode code 656 = .ok (.aload_n 1, 1) := by decide +kernel
theorem d_Lw_law_657 : decode code 657 = .ok (.aload_n 0, 1) := by decide +kernel
theorem d_Lw_law_658 : decode code 658 = .ok (.iload_n 3, 1) := by decide +kernel
theorem d_Lw_law_659 : decode code 659 = .ok (.iconst 1, 1) := by decide +kernel
theorem d_Lw_law_660 : decode code 660 = .ok (.iadd, 1) := by decide +kernel
theorem d_Lw_law_661 : decode code 661 = .ok (.iaload, 1) := by decide +kernel
theorem d_Lw_law_662 : decode code 662 = .ok (.invokevirtual 92, 3) := by decide +kernel
theorem d_Lw_law_665 : decode code 665 = .ok (.aload_n 2, 1) := by decide +kernel
theorem d_Lw_law_666 : decode code 666 = .ok (.aload_n 0, 1) := by decide +kernel
theorem d_Lw_law_667 : decode code 667 = .ok (.iload_n 3, 1) := by decide +kernel
theorem d_Lw_law_668 : decode code 668 = .ok (.iconst 1, 1) := by decide +kernel
theorem d_Lw_law_669 : decode code 669 = .ok (.iadd, 1) := by decide +kernel
theorem d_Lw_law_670 : decode code 670 = .ok (.iaload, 1) := by decide +kernel
theorem d_Lw_law_671 : decode code 671 = .ok (.invokevirtual 95, 3) := by decide +kernel
theorem d_Lw_law_674 : decode code 674 = .ok (.if_icmp .eq 28, 3) := by decide +kernel
theorem d_Lw_law_677 : decode code 677 = .ok (.iconst 0, 1) := by decide +kernel
theorem d_Lw_law_678 : decode code 678 = .ok (.ireturn, 1) := by decide +kernel
theorem d_Lw_law_679 : decode code 679 = .ok (.aload_n 1, 1) := by decide +kernel
theorem d_Lw_law_680 : decode code 680 = .ok (.aload_n 0, 1) := by decide +kernel
theorem d_Lw_law_681 : decode code 681 = .ok (.iload_n 3, 1) := by decide +kernel
theorem d_Lw_law_682 : decode code 682 = .ok (.iconst 1, 1) := by decide +kernel
theorem d_Lw_law_683 : decode code 683 = .ok (.iadd, 1) := by decide +kernel
theorem d_Lw_law_684 : decode code 684 = .ok (.iaload, 1) := by decide +kernel
theorem d_Lw_law_685 : decode code 685 = .ok (.invokevirtual 96, 3) := by decide +kernel
theorem d_Lw_law_688 : decode code 688 = .ok (.aload_n 2, 1) := by decide +kernel
theorem d_Lw_law_689 : decode code 689 = .ok (.aload_n 0, 1) := by decide +kernel
theorem d_Lw_law_690 : decode code 690 = .ok (.iload_n 3, 1) := by decide +kernel
theorem d_Lw_law_691 : decode code 691 = .ok (.iconst 1, 1) := by decide +kernel
theorem d_Lw_law_692 : decode code 692 = .ok (.iadd, 1) := by decide +kernel
theorem d_Lw_law_693 : decode code 693 = .ok (.iaload, 1) := by decide +kernel
theorem d_Lw_law_694 : decode code 694 = .ok (.invokevirtual 99, 3) := by decide +kernel
theorem d_Lw_law_697 : decode code 697 = .ok (.if_icmp .eq 5, 3) := by decide +kernel
theorem d_Lw_law_700 : decode code 700 = .ok (.iconst 0, 1) := by decide +kernel
theorem d_Lw_law_701 : decode code 701 = .ok (.ireturn, 1) := by decide +kernel
theorem d_Lw_law_702 : decode code 702 = .ok (.iinc 3 5, 3) := by decide +kernel
theorem d_Lw_law_705 : decode code 705 = .ok (.goto (-687), 3) := by decide +kernel
theorem d_Lw_law_708 : decode code 708 = .ok (.iconst 1, 1) := by decide +kernel
theorem d_Lw_law_709 : decode code 709 = .ok (.ireturn, 1) := by decide +kernel
end
section
/-! The world as a partial heap (pm) and the judgement V: from a place of a method the method returns with a post over answers and worlds. Every row of the machine is used once here. -/
abbrev pmC : Type := (Nat × vp_A) ⊕ (Nat × List Value)
abbrev pmG : Type := Nat → Option pmC
abbrev pmE : Type := Launch × va_G × (Nat → ClassId) × Nat × Nat × (Nat → Int32)
abbrev pmLo : Type := List (Option Value)
abbrev pmPost : Type := Option Value → Nat → pmG → Prop
def pmSet (G : pmG) (a : Nat) (c : pmC) : pmG := fun b => if b = a then some c else G b
theorem pmSet_self (G : pmG) (a : Nat) (c : pmC) : pmSet G a c a = some c := if_pos rfl
theorem pmSet_ne (G : pmG) {a b : Nat} (c : pmC) (h : b ≠ a) : pmSet G a c b = G b := if_neg h
def pmT (aK : Nat → ClassId) (e : pmC) : va_E := match e with
  | .inl x => .inl (aK x.1, x.2)
  | .inr o => .inr o
def pmPush (r : Option Value) (st : List Value) : List Value := match r with
  | none => st
  | some v => v :: st
theorem pmPush_eq (r : Option Value) (st : List Value) : r.toList ++ st = pmPush r st := by cases r <;> rfl
def pmIn (vs : List Value) (n : Nat) : pmLo := vs.map some ++ List.replicate (n - vs.length) none
-- the heap holds what G says
def pmR (Γ : pmE) (G : pmG) (H : Heap) : Prop := ∀ (a : Nat) (e : pmC), G a = some e → va_at Γ.2.1 pmCl (a, pmT Γ.2.2.1 e) H
-- what the tables say
def pmK (Γ : pmE) (U : State) : Prop := (∀ w ∈ pmWs, ∀ a : Array Value, w.before a U = true) ∧ (∀ (c : Nat) (q : vw_C), pmCl[c]? = some q → u_Kn U q.1 q.2.1 q.2.2 (Γ.2.1.1 c) (Γ.2.1.2 c)) ∧ ∀ (k : Nat) (ty : FieldType), pmTy k = some ty → ArrOfT U (Γ.2.2.1 k) ty ∧ va_RA U (Γ.2.2.1 k) ty
def pmS (Γ : pmE) (U : State) (H : Heap) : Prop := va_X Γ.2.2.2.1 Γ.2.2.2.2.1 Γ.2.2.2.2.2 U H ∧ Γ.2.2.2.1 < H.size
def pmA (G : pmG) (n : Nat) : Nat → Prop := fun q => (∃ e, G q = some e) ∨ n ≤ q
theorem pmMv_moved {w : Jvm.Cond} {s U : State} (h : pmMv w = true) (hW : s.WarmedH U.vm) (hs : ∀ a : Array Value, w.before a s = true) : ∀ a : Array Value, w.before a U = true := by
  unfold pmMv at h
  split at h
  · exact fun a => va_Nw.use rfl (va_Nw.warmF hW (hs #[]))
  · exact fun a => va_Nw.use rfl (va_Nw.warmM hW (hs #[]))
  · exact fun a => va_AO.use (va_AO.moved hW.alike (va_AO.of (hs #[])))
  · exact fun a => word_at hW (good_of_word h) (hs #[])
theorem pmK.moved {Γ : pmE} {s U : State} (hW : s.WarmedH U.vm) (h : pmK Γ s) : pmK Γ U :=
  ⟨fun w hw => pmMv_moved (pmWs_ok w hw) hW (h.1 w hw), fun c q hq => u_Kn_moved hW.alike (h.2.1 c q hq), fun k ty hk => ⟨arrOfT_moved hW.alike (h.2.2 k ty hk).1, (h.2.2 k ty hk).2.moved hW.alike⟩⟩
-- the locals
def pmL (ls : Array Slot) (nL : Nat) (lo : pmLo) : Prop := ∃ lv : List (Nat × Value), lv_has ls nL lv ∧ lo.length = nL ∧ ∀ (i : Nat) (v : Value), lo[i]? = some (some v) → (i, v) ∈ lv ∧ v.category = 1
theorem pmL.get {ls : Array Slot} {nL : Nat} {lo : pmLo} (h : pmL ls nL lo) {i : Nat} {v : Value} (hi : lo[i]? = some (some v)) : ls[i]? = some (.val v) := by
  obtain ⟨lv, h1, h2, h3⟩ := h
  exact h1.2.2 (i, v) (h3 i v hi).1
theorem pmL.size {ls : Array Slot} {nL : Nat} {lo : pmLo} (h : pmL ls nL lo) : ls.size = nL := by
  obtain ⟨lv, h1, h2, h3⟩ := h
  exact h1.1
theorem pmL.set {ls' : Array Slot} {nL : Nat} {lo : pmLo} {lv : List (Nat × Value)} {i : Nat} {v : Value} (h2 : lo.length = nL) (h3 : ∀ (i : Nat) (v : Value), lo[i]? = some (some v) → (i, v) ∈ lv ∧ v.category = 1) (hv : v.category = 1)
    (h' : lv_has ls' nL ((i, v) :: lv.filter (fun q => !(q.1 == i) && !(q.1 + 1 == i && q.2.category == 2)))) : pmL ls' nL (lo.set i (some v)) := by
  refine ⟨_, h', by simp [h2], fun j u hj => ?_⟩
  rw [List.getElem?_set] at hj
  split at hj
  · rename_i hij
    split at hj
    · cases hj
      subst hij
      exact ⟨List.mem_cons_self, hv⟩
    · cases hj
  · rename_i hij
    obtain ⟨g1, g2⟩ := h3 j u hj
    refine ⟨List.mem_cons_of_mem _ (List.mem_filter.mpr ⟨g1, ?_⟩), g2⟩
    have hne : (j == i) = false := by simpa using fun h : j = i => hij h.symm
    simp [hne, g2]
theorem pm_args {vs : List Value} (hv : ∀ v ∈ vs, v.category = 1) : ∀ (b i : Nat) (v : Value), vs[i]? = some v → (b + i, v) ∈ lv_args b vs := by
  induction vs with
  | nil => intro b i v h; simp at h
  | cons u us ih =>
    intro b i v h
    have hu : u.category = 1 := hv u List.mem_cons_self
    have e : lv_args b (u :: us) = (b, u) :: lv_args (b + 1) us := by
      rw [lv_args, if_neg (by rw [hu]; decide)]
    rw [e]
    cases i with
    | zero => simp at h; subst h; exact List.mem_cons_self
    | succ i =>
      have h2 := ih (fun v hv' => hv v (List.mem_cons_of_mem _ hv')) (b + 1) i v (by simpa using h)
      rw [show b + 1 + i = b + (i + 1) by omega] at h2
      exact List.mem_cons_of_mem _ h2
theorem pm_sl {vs : List Value} (hv : ∀ v ∈ vs, v.category = 1) : (lg_sl vs).length = vs.length := by
  induction vs with
  | nil => rfl
  | cons u us ih =>
    have hu : u.category = 1 := hv u List.mem_cons_self
    have := ih (fun v hv' => hv v (List.mem_cons_of_mem _ hv'))
    simp only [lg_sl, List.flatMap_cons, List.length_append, List.length_cons] at this ⊢
    rw [this, if_neg (by rw [hu]; decide)]
    simp
    omega
theorem pmL.entry {vs : List Value} {n : Nat} (hv : ∀ v ∈ vs, v.category = 1) (hn : vs.length ≤ n) : pmL ((lg_sl vs ++ List.replicate (n - (lg_sl vs).length) Slot.unset).toArray) n (pmIn vs n) := by
  refine ⟨_, lv_entry vs (by rw [pm_sl hv]; exact hn), by simp [pmIn]; omega, fun i v h => ?_⟩
  unfold pmIn at h
  by_cases hi : i < vs.length
  · rw [List.getElem?_append_left (by simpa using hi)] at h
    simp at h
    have h1 := pm_args hv 0 i v (by simpa using h)
    rw [Nat.zero_add] at h1
    exact ⟨h1, hv v (List.mem_of_getElem? h)⟩
  · rw [List.getElem?_append_right (by simpa using Nat.le_of_not_lt hi)] at h
    rw [List.getElem?_replicate] at h
    split at h <;> cases h
-- the fixed part of a place, its moving part, the judgement
def pmX (Γ : pmE) (M : pmM) (p : Program) (s : State) (m : MethodId) (args : Array Value) (meth : Method) (c : Code) (R : Room) (A : Nat → Prop) (Qc : Array Value → State → Outcome → State → Prop) (mc ms : Nat) (Q : pmPost) : Prop :=
  p.tables.exec = Jvm.exec ∧ c.code = M.2.1 ∧ c.maxLocals = M.2.2.1 ∧ meth.sig.returnType = M.2.2.2.1 ∧ meth.locks = false ∧ meth.name = M.1.name ∧ s.vm.findClass M.1.cls = some m.cls ∧ pmK Γ s ∧ (pmS Γ s s.heap ∧ ¬ A Γ.2.2.2.1) ∧
  (M.2.2.2.2 ≤ R.frames ∧ 40 * M.2.2.2.2 ≤ R.locals ∧ mc ≤ R.cells ∧ ms ≤ R.slots) ∧ (∀ q, s.heap.size ≤ q → A q) ∧
  ∀ (r : Option Value) (n' : Nat) (G' : pmG) (t : State), Q r n' G' → t.heap.size = n' → pmR Γ G' t.heap → (∀ a e, G' a = some e → A a) → va_F A s t → Qc args s (.returned r) t
def pmY (Γ : pmE) (M : pmM) (s : State) (A : Nat → Prop) (mc ms : Nat) (ls : Array Slot) (H : Heap) (locs : List Loc) (cells slots : Nat) (lo : pmLo) (n : Nat) (G : pmG) (bc bs : Nat) : Prop :=
  pmL ls M.2.2.1 lo ∧ H.size = n ∧ pmR Γ G H ∧ (∀ a e, G a = some e → A a) ∧ va_S A s.heap H locs ∧ cells + bc = mc ∧ slots + bs = ms
def pV (Γ : pmE) (M : pmM) (pc : Nat) (lo : pmLo) (st : List Value) (n : Nat) (G : pmG) (bc bs : Nat) (Q : pmPost) : Prop :=
  ∀ (p : Program) (e : Env) (s : State) (m : MethodId) (args : Array Value) (below : List Frame) (meth : Method) (c : Code) (R : Room) (A : Nat → Prop) (Qc : Array Value → State → Outcome → State → Prop) (mc ms : Nat), pmX Γ M p s m args meth c R A Qc mc ms Q →
    ∀ (ls : Array Slot) (H : Heap) (locs : List Loc) (cells slots : Nat), pmY Γ M s A mc ms ls H locs cells slots lo n G bc bs → W p Γ.1 e R s m args below meth c H locs cells slots (MQ below Qc args s mc ms A) (F0 m pc ls st)
theorem pmR.set {Γ : pmE} {G : pmG} {H H' : Heap} {a : Nat} {e : pmC} (h : pmR Γ G H) (he : va_at Γ.2.1 pmCl (a, pmT Γ.2.2.1 e) H') (oq : ∀ q : Nat, q ≠ a → H'[q]? = H[q]?) : pmR Γ (pmSet G a e) H' := by
  intro b x hb
  by_cases hba : b = a
  · subst hba
    rw [pmSet_self] at hb
    cases hb
    exact he
  · rw [pmSet_ne _ _ hba] at hb
    exact (h b x hb).kept (oq b hba)
theorem pmR.push {Γ : pmE} {G : pmG} {H H' : Heap} {a : Nat} {e : pmC} (h : pmR Γ G H) (ha : H.size = a) (he : va_at Γ.2.1 pmCl (a, pmT Γ.2.2.1 e) H') (oq : ∀ q : Nat, q < a → H'[q]? = H[q]?) : pmR Γ (pmSet G a e) H' := by
  intro b x hb
  by_cases hba : b = a
  · subst hba
    rw [pmSet_self] at hb
    cases hb
    exact he
  · rw [pmSet_ne _ _ hba] at hb
    have h1 := h b x hb
    have h2 : b < H.size := h1.lt
    exact h1.kept (oq b (by omega))
theorem pmSet_dom {G : pmG} {a : Nat} {c : pmC} {A : Nat → Prop} (h : ∀ a e, G a = some e → A a) (ha : A a) : ∀ b e, pmSet G a c b = some e → A b := by
  intro b e hb
  by_cases hba : b = a
  · subst hba; exact ha
  · rw [pmSet_ne _ _ hba] at hb
    exact h b e hb
theorem pV.post {Γ : pmE} {M : pmM} {pc : Nat} {lo : pmLo} {st : List Value} {n : Nat} {G : pmG} {bc bs : Nat} {Q Q' : pmPost} (h : pV Γ M pc lo st n G bc bs Q') (hQ : ∀ r n' G', Q' r n' G' → Q r n' G') : pV Γ M pc lo st n G bc bs Q := by
  intro p e s m args below meth c R A Qc mc ms X
  obtain ⟨x1, x2, x3, x4, x5, x6, x7, x8, x9, x10, x11, x12⟩ := X
  exact h p e s m args below meth c R A Qc mc ms ⟨x1, x2, x3, x4, x5, x6, x7, x8, x9, x10, x11, fun r n' G' t hq => x12 r n' G' t (hQ r n' G' hq)⟩
end
section
/-! V's rows: an instruction a row. -/
section VROWS
variable {Γ : pmE} {M : pmM} {pc : Nat} {lo : pmLo} {st : List Value} {n : Nat} {G : pmG} {bc bs : Nat} {Q : pmPost}
theorem V_iconst {z : Int} {v : Int32} (hd : decode M.2.1 pc = .ok (.iconst z, 1)) (hv : Int32.ofInt z = v) (k : pV Γ M (pc + 1) lo (.int v :: st) n G bc bs Q) : pV Γ M pc lo (st) n G bc bs Q :=
  fun p e s m args below meth c R A Qc mc ms X ls H locs cells slots Y => lv_iconst X.1 X.2.1 hd hv (k p e s m args below meth c R A Qc mc ms X ls H locs cells slots Y)
theorem V_bipush {z : Int} {v : Int32} (hd : decode M.2.1 pc = .ok (.bipush z, 2)) (hv : (Int8.ofInt z).toInt32 = v) (k : pV Γ M (pc + 2) lo (.int v :: st) n G bc bs Q) : pV Γ M pc lo (st) n G bc bs Q :=
  fun p e s m args below meth c R A Qc mc ms X ls H locs cells slots Y => lv_bipush X.1 X.2.1 hd hv (k p e s m args below meth c R A Qc mc ms X ls H locs cells slots Y)
theorem V_sipush {z : Int} {v : Int32} (hd : decode M.2.1 pc = .ok (.sipush z, 3)) (hv : (Int16.ofInt z).toInt32 = v) (k : pV Γ M (pc + 3) lo (.int v :: st) n G bc bs Q) : pV Γ M pc lo (st) n G bc bs Q :=
  fun p e s m args below meth c R A Qc mc ms X ls H locs cells slots Y => lv_sipush X.1 X.2.1 hd hv (k p e s m args below meth c R A Qc mc ms X ls H locs cells slots Y)
theorem V_null (hd : decode M.2.1 pc = .ok (.aconst_null, 1)) (k : pV Γ M (pc + 1) lo (.null :: st) n G bc bs Q) : pV Γ M pc lo (st) n G bc bs Q :=
  fun p e s m args below meth c R A Qc mc ms X ls H locs cells slots Y => lv_null X.1 X.2.1 hd (k p e s m args below meth c R A Qc mc ms X ls H locs cells slots Y)
theorem V_iload_n {i : Fin 4} {x : Int32} (hd : decode M.2.1 pc = .ok (.iload_n i, 1)) (hl : lo[(i : Nat)]? = some (some (.int x))) (k : pV Γ M (pc + 1) lo (.int x :: st) n G bc bs Q) : pV Γ M pc lo (st) n G bc bs Q :=
  fun p e s m args below meth c R A Qc mc ms X ls H locs cells slots Y => lv_iload_n X.1 X.2.1 hd rfl (Y.1.get hl) (k p e s m args below meth c R A Qc mc ms X ls H locs cells slots Y)
theorem V_iload {i : Nat} {x : Int32} (hd : decode M.2.1 pc = .ok (.iload i, 2)) (hl : lo[i]? = some (some (.int x))) (k : pV Γ M (pc + 2) lo (.int x :: st) n G bc bs Q) : pV Γ M pc lo (st) n G bc bs Q :=
  fun p e s m args below meth c R A Qc mc ms X ls H locs cells slots Y => lv_iload X.1 X.2.1 hd (Y.1.get hl) (k p e s m args below meth c R A Qc mc ms X ls H locs cells slots Y)
theorem V_aload_n {i : Fin 4} {x : Nat} (hd : decode M.2.1 pc = .ok (.aload_n i, 1)) (hl : lo[(i : Nat)]? = some (some (.ref x))) (k : pV Γ M (pc + 1) lo (.ref x :: st) n G bc bs Q) : pV Γ M pc lo (st) n G bc bs Q :=
  fun p e s m args below meth c R A Qc mc ms X ls H locs cells slots Y => lv_aload_n X.1 X.2.1 hd rfl (Y.1.get hl) (k p e s m args below meth c R A Qc mc ms X ls H locs cells slots Y)
theorem V_aload {i : Nat} {x : Nat} (hd : decode M.2.1 pc = .ok (.aload i, 2)) (hl : lo[i]? = some (some (.ref x))) (k : pV Γ M (pc + 2) lo (.ref x :: st) n G bc bs Q) : pV Γ M pc lo (st) n G bc bs Q :=
  fun p e s m args below meth c R A Qc mc ms X ls H locs cells slots Y => lv_aload X.1 X.2.1 hd (Y.1.get hl) (k p e s m args below meth c R A Qc mc ms X ls H locs cells slots Y)
theorem V_aload_nN {i : Fin 4} (hd : decode M.2.1 pc = .ok (.aload_n i, 1)) (hl : lo[(i : Nat)]? = some (some .null)) (k : pV Γ M (pc + 1) lo (.null :: st) n G bc bs Q) : pV Γ M pc lo (st) n G bc bs Q :=
  fun p e s m args below meth c R A Qc mc ms X ls H locs cells slots Y => lv_aload_nN X.1 X.2.1 hd rfl (Y.1.get hl) (k p e s m args below meth c R A Qc mc ms X ls H locs cells slots Y)
theorem V_aloadN {i : Nat} (hd : decode M.2.1 pc = .ok (.aload i, 2)) (hl : lo[i]? = some (some .null)) (k : pV Γ M (pc + 2) lo (.null :: st) n G bc bs Q) : pV Γ M pc lo (st) n G bc bs Q :=
  fun p e s m args below meth c R A Qc mc ms X ls H locs cells slots Y => lv_aloadN X.1 X.2.1 hd (Y.1.get hl) (k p e s m args below meth c R A Qc mc ms X ls H locs cells slots Y)
theorem V_iadd {x y : Int32} (hd : decode M.2.1 pc = .ok (.iadd, 1)) (k : pV Γ M (pc + 1) lo (.int (x + y) :: st) n G bc bs Q) : pV Γ M pc lo (.int y :: .int x :: st) n G bc bs Q :=
  fun p e s m args below meth c R A Qc mc ms X ls H locs cells slots Y => lv_iadd X.1 X.2.1 hd (k p e s m args below meth c R A Qc mc ms X ls H locs cells slots Y)
theorem V_isub {x y : Int32} (hd : decode M.2.1 pc = .ok (.isub, 1)) (k : pV Γ M (pc + 1) lo (.int (x - y) :: st) n G bc bs Q) : pV Γ M pc lo (.int y :: .int x :: st) n G bc bs Q :=
  fun p e s m args below meth c R A Qc mc ms X ls H locs cells slots Y => lv_isub X.1 X.2.1 hd (k p e s m args below meth c R A Qc mc ms X ls H locs cells slots Y)
theorem V_imul {x y : Int32} (hd : decode M.2.1 pc = .ok (.imul, 1)) (k : pV Γ M (pc + 1) lo (.int (x * y) :: st) n G bc bs Q) : pV Γ M pc lo (.int y :: .int x :: st) n G bc bs Q :=
  fun p e s m args below meth c R A Qc mc ms X ls H locs cells slots Y => lv_imul X.1 X.2.1 hd (k p e s m args below meth c R A Qc mc ms X ls H locs cells slots Y)
theorem V_iand {x y : Int32} (hd : decode M.2.1 pc = .ok (.iand, 1)) (k : pV Γ M (pc + 1) lo (.int (x &&& y) :: st) n G bc bs Q) : pV Γ M pc lo (.int y :: .int x :: st) n G bc bs Q :=
  fun p e s m args below meth c R A Qc mc ms X ls H locs cells slots Y => lv_iand X.1 X.2.1 hd (k p e s m args below meth c R A Qc mc ms X ls H locs cells slots Y)
theorem V_idiv {x y : Int32} (hd : decode M.2.1 pc = .ok (.idiv, 1)) (hne : ¬ y = 0) (k : pV Γ M (pc + 1) lo (.int (x / y) :: st) n G bc bs Q) : pV Γ M pc lo (.int y :: .int x :: st) n G bc bs Q :=
  fun p e s m args below meth c R A Qc mc ms X ls H locs cells slots Y => lv_idiv X.1 X.2.1 hd hne (k p e s m args below meth c R A Qc mc ms X ls H locs cells slots Y)
theorem V_irem {x y : Int32} (hd : decode M.2.1 pc = .ok (.irem, 1)) (hne : ¬ y = 0) (k : pV Γ M (pc + 1) lo (.int (x - x / y * y) :: st) n G bc bs Q) : pV Γ M pc lo (.int y :: .int x :: st) n G bc bs Q :=
  fun p e s m args below meth c R A Qc mc ms X ls H locs cells slots Y => lv_irem X.1 X.2.1 hd hne (k p e s m args below meth c R A Qc mc ms X ls H locs cells slots Y)
theorem V_ineg {x : Int32} (hd : decode M.2.1 pc = .ok (.ineg, 1)) (k : pV Γ M (pc + 1) lo (.int (-x) :: st) n G bc bs Q) : pV Γ M pc lo (.int x :: st) n G bc bs Q :=
  fun p e s m args below meth c R A Qc mc ms X ls H locs cells slots Y => lv_ineg X.1 X.2.1 hd (k p e s m args below meth c R A Qc mc ms X ls H locs cells slots Y)
theorem V_dup {u : Value} (hd : decode M.2.1 pc = .ok (.dup, 1)) (hu : u.category = 1) (k : pV Γ M (pc + 1) lo (u :: u :: st) n G bc bs Q) : pV Γ M pc lo (u :: st) n G bc bs Q :=
  fun p e s m args below meth c R A Qc mc ms X ls H locs cells slots Y => lv_dup X.1 X.2.1 hd hu (k p e s m args below meth c R A Qc mc ms X ls H locs cells slots Y)
theorem V_pop {u : Value} (hd : decode M.2.1 pc = .ok (.pop, 1)) (hu : u.category = 1) (k : pV Γ M (pc + 1) lo (st) n G bc bs Q) : pV Γ M pc lo (u :: st) n G bc bs Q :=
  fun p e s m args below meth c R A Qc mc ms X ls H locs cells slots Y => lv_pop X.1 X.2.1 hd hu (k p e s m args below meth c R A Qc mc ms X ls H locs cells slots Y)
theorem V_dup2 {u v : Value} (hd : decode M.2.1 pc = .ok (.dup2, 1)) (hu : u.category = 1) (hv : v.category = 1) (k : pV Γ M (pc + 1) lo (u :: v :: u :: v :: st) n G bc bs Q) : pV Γ M pc lo (u :: v :: st) n G bc bs Q :=
  fun p e s m args below meth c R A Qc mc ms X ls H locs cells slots Y => lv_dup2_11 X.1 X.2.1 hd hu hv (k p e s m args below meth c R A Qc mc ms X ls H locs cells slots Y)
theorem V_dup_x1 {u v : Value} (hd : decode M.2.1 pc = .ok (.dup_x1, 1)) (hu : u.category = 1) (hv : v.category = 1) (k : pV Γ M (pc + 1) lo (u :: v :: u :: st) n G bc bs Q) : pV Γ M pc lo (u :: v :: st) n G bc bs Q :=
  fun p e s m args below meth c R A Qc mc ms X ls H locs cells slots Y => lv_dup_x1 X.1 X.2.1 hd hu hv (k p e s m args below meth c R A Qc mc ms X ls H locs cells slots Y)
theorem V_istore_n {i : Fin 4} {x : Int32} (hd : decode M.2.1 pc = .ok (.istore_n i, 1)) (hi : (i : Nat) < lo.length) (k : pV Γ M (pc + 1) (lo.set (i : Nat) (some (.int x))) st n G bc bs Q) : pV Γ M pc lo (.int x :: st) n G bc bs Q := by
  intro p e s m args below meth c R A Qc mc ms X ls H locs cells slots Y
  obtain ⟨⟨lv, h1, h2, h3⟩, Y2⟩ := Y
  refine lv_istore_n X.1 X.2.1 hd rfl h1 (by rw [← h2]; exact hi) rfl fun ls' h' => ?_
  exact k p e s m args below meth c R A Qc mc ms X ls' H locs cells slots ⟨pmL.set h2 h3 rfl h', Y2⟩
theorem V_istore {i : Nat} {x : Int32} (hd : decode M.2.1 pc = .ok (.istore i, 2)) (hi : i < lo.length) (k : pV Γ M (pc + 2) (lo.set i (some (.int x))) st n G bc bs Q) : pV Γ M pc lo (.int x :: st) n G bc bs Q := by
  intro p e s m args below meth c R A Qc mc ms X ls H locs cells slots Y
  obtain ⟨⟨lv, h1, h2, h3⟩, Y2⟩ := Y
  refine lv_istore X.1 X.2.1 hd h1 (by rw [← h2]; exact hi) rfl fun ls' h' => ?_
  exact k p e s m args below meth c R A Qc mc ms X ls' H locs cells slots ⟨pmL.set h2 h3 rfl h', Y2⟩
theorem V_astore_n {i : Fin 4} {x : Nat} (hd : decode M.2.1 pc = .ok (.astore_n i, 1)) (hi : (i : Nat) < lo.length) (k : pV Γ M (pc + 1) (lo.set (i : Nat) (some (.ref x))) st n G bc bs Q) : pV Γ M pc lo (.ref x :: st) n G bc bs Q := by
  intro p e s m args below meth c R A Qc mc ms X ls H locs cells slots Y
  obtain ⟨⟨lv, h1, h2, h3⟩, Y2⟩ := Y
  refine lv_astore_n X.1 X.2.1 hd rfl h1 (by rw [← h2]; exact hi) rfl fun ls' h' => ?_
  exact k p e s m args below meth c R A Qc mc ms X ls' H locs cells slots ⟨pmL.set h2 h3 rfl h', Y2⟩
theorem V_astore {i : Nat} {x : Nat} (hd : decode M.2.1 pc = .ok (.astore i, 2)) (hi : i < lo.length) (k : pV Γ M (pc + 2) (lo.set i (some (.ref x))) st n G bc bs Q) : pV Γ M pc lo (.ref x :: st) n G bc bs Q := by
  intro p e s m args below meth c R A Qc mc ms X ls H locs cells slots Y
  obtain ⟨⟨lv, h1, h2, h3⟩, Y2⟩ := Y
  refine lv_astore X.1 X.2.1 hd h1 (by rw [← h2]; exact hi) rfl fun ls' h' => ?_
  exact k p e s m args below meth c R A Qc mc ms X ls' H locs cells slots ⟨pmL.set h2 h3 rfl h', Y2⟩
theorem V_astore_nN {i : Fin 4} (hd : decode M.2.1 pc = .ok (.astore_n i, 1)) (hi : (i : Nat) < lo.length) (k : pV Γ M (pc + 1) (lo.set (i : Nat) (some (.null))) st n G bc bs Q) : pV Γ M pc lo (.null :: st) n G bc bs Q := by
  intro p e s m args below meth c R A Qc mc ms X ls H locs cells slots Y
  obtain ⟨⟨lv, h1, h2, h3⟩, Y2⟩ := Y
  refine lv_astore_nN X.1 X.2.1 hd rfl h1 (by rw [← h2]; exact hi) rfl fun ls' h' => ?_
  exact k p e s m args below meth c R A Qc mc ms X ls' H locs cells slots ⟨pmL.set h2 h3 rfl h', Y2⟩
theorem V_astoreN {i : Nat} (hd : decode M.2.1 pc = .ok (.astore i, 2)) (hi : i < lo.length) (k : pV Γ M (pc + 2) (lo.set i (some (.null))) st n G bc bs Q) : pV Γ M pc lo (.null :: st) n G bc bs Q := by
  intro p e s m args below meth c R A Qc mc ms X ls H locs cells slots Y
  obtain ⟨⟨lv, h1, h2, h3⟩, Y2⟩ := Y
  refine lv_astoreN X.1 X.2.1 hd h1 (by rw [← h2]; exact hi) rfl fun ls' h' => ?_
  exact k p e s m args below meth c R A Qc mc ms X ls' H locs cells slots ⟨pmL.set h2 h3 rfl h', Y2⟩
theorem V_iinc {i : Nat} {z : Int} {x v : Int32} (hd : decode M.2.1 pc = .ok (.iinc i z, 3)) (hl : lo[i]? = some (some (.int x))) (hv : x + Int32.ofInt z = v) (k : pV Γ M (pc + 3) (lo.set i (some (.int v))) st n G bc bs Q) : pV Γ M pc lo st n G bc bs Q := by
  intro p e s m args below meth c R A Qc mc ms X ls H locs cells slots Y
  obtain ⟨⟨lv, h1, h2, h3⟩, Y2⟩ := Y
  obtain ⟨j, hj⟩ := List.getElem?_of_mem (h3 i _ hl).1
  have hi : i < lo.length := (List.getElem?_eq_some_iff.mp hl).1
  refine lv_iinc X.1 X.2.1 hd h1 hj hv (by rw [← h2]; exact hi) rfl fun ls' h' => ?_
  exact k p e s m args below meth c R A Qc mc ms X ls' H locs cells slots ⟨pmL.set h2 h3 rfl h', Y2⟩
theorem V_goto {off : Int} {tgt : Nat} (hd : decode M.2.1 pc = .ok (.goto off, 3)) (ht : (pc : Int) + off = (tgt : Int)) (k : pV Γ M tgt lo st n G bc bs Q) : pV Γ M pc lo st n G bc bs Q :=
  fun p e s m args below meth c R A Qc mc ms X ls H locs cells slots Y => lv_goto X.1 X.2.1 hd ht (k p e s m args below meth c R A Qc mc ms X ls H locs cells slots Y)
theorem V_icmp_eq {x y : Int32} {off : Int} {tgt : Nat} (hd : decode M.2.1 pc = .ok (.if_icmp .eq off, 3)) (ht : (pc : Int) + off = (tgt : Int)) (kt : x = y → pV Γ M tgt lo st n G bc bs Q) (kf : ¬ (x = y) → pV Γ M (pc + 3) lo st n G bc bs Q) : pV Γ M pc lo (.int y :: .int x :: st) n G bc bs Q :=
  fun p e s m args below meth c R A Qc mc ms X ls H locs cells slots Y => lv_icmp_eq X.1 X.2.1 hd ht (fun h => kt h p e s m args below meth c R A Qc mc ms X ls H locs cells slots Y) (fun h => kf h p e s m args below meth c R A Qc mc ms X ls H locs cells slots Y)
theorem V_if_eq {x : Int32} {off : Int} {tgt : Nat} (hd : decode M.2.1 pc = .ok (.ifCond .eq off, 3)) (ht : (pc : Int) + off = (tgt : Int)) (kt : x = 0 → pV Γ M tgt lo st n G bc bs Q) (kf : ¬ (x = 0) → pV Γ M (pc + 3) lo st n G bc bs Q) : pV Γ M pc lo (.int x :: st) n G bc bs Q :=
  fun p e s m args below meth c R A Qc mc ms X ls H locs cells slots Y => lv_if_eq X.1 X.2.1 hd ht (fun h => kt h p e s m args below meth c R A Qc mc ms X ls H locs cells slots Y) (fun h => kf h p e s m args below meth c R A Qc mc ms X ls H locs cells slots Y)
theorem V_icmp_ne {x y : Int32} {off : Int} {tgt : Nat} (hd : decode M.2.1 pc = .ok (.if_icmp .ne off, 3)) (ht : (pc : Int) + off = (tgt : Int)) (kt : ¬ x = y → pV Γ M tgt lo st n G bc bs Q) (kf : x = y → pV Γ M (pc + 3) lo st n G bc bs Q) : pV Γ M pc lo (.int y :: .int x :: st) n G bc bs Q :=
  fun p e s m args below meth c R A Qc mc ms X ls H locs cells slots Y => lv_icmp_ne X.1 X.2.1 hd ht (fun h => kt h p e s m args below meth c R A Qc mc ms X ls H locs cells slots Y) (fun h => kf h p e s m args below meth c R A Qc mc ms X ls H locs cells slots Y)
theorem V_if_ne {x : Int32} {off : Int} {tgt : Nat} (hd : decode M.2.1 pc = .ok (.ifCond .ne off, 3)) (ht : (pc : Int) + off = (tgt : Int)) (kt : ¬ x = 0 → pV Γ M tgt lo st n G bc bs Q) (kf : x = 0 → pV Γ M (pc + 3) lo st n G bc bs Q) : pV Γ M pc lo (.int x :: st) n G bc bs Q :=
  fun p e s m args below meth c R A Qc mc ms X ls H locs cells slots Y => lv_if_ne X.1 X.2.1 hd ht (fun h => kt h p e s m args below meth c R A Qc mc ms X ls H locs cells slots Y) (fun h => kf h p e s m args below meth c R A Qc mc ms X ls H locs cells slots Y)
theorem V_icmp_lt {x y : Int32} {off : Int} {tgt : Nat} (hd : decode M.2.1 pc = .ok (.if_icmp .lt off, 3)) (ht : (pc : Int) + off = (tgt : Int)) (kt : x < y → pV Γ M tgt lo st n G bc bs Q) (kf : ¬ (x < y) → pV Γ M (pc + 3) lo st n G bc bs Q) : pV Γ M pc lo (.int y :: .int x :: st) n G bc bs Q :=
  fun p e s m args below meth c R A Qc mc ms X ls H locs cells slots Y => lv_icmp_lt X.1 X.2.1 hd ht (fun h => kt h p e s m args below meth c R A Qc mc ms X ls H locs cells slots Y) (fun h => kf h p e s m args below meth c R A Qc mc ms X ls H locs cells slots Y)
theorem V_if_lt {x : Int32} {off : Int} {tgt : Nat} (hd : decode M.2.1 pc = .ok (.ifCond .lt off, 3)) (ht : (pc : Int) + off = (tgt : Int)) (kt : x < 0 → pV Γ M tgt lo st n G bc bs Q) (kf : ¬ (x < 0) → pV Γ M (pc + 3) lo st n G bc bs Q) : pV Γ M pc lo (.int x :: st) n G bc bs Q :=
  fun p e s m args below meth c R A Qc mc ms X ls H locs cells slots Y => lv_if_lt X.1 X.2.1 hd ht (fun h => kt h p e s m args below meth c R A Qc mc ms X ls H locs cells slots Y) (fun h => kf h p e s m args below meth c R A Qc mc ms X ls H locs cells slots Y)
theorem V_icmp_ge {x y : Int32} {off : Int} {tgt : Nat} (hd : decode M.2.1 pc = .ok (.if_icmp .ge off, 3)) (ht : (pc : Int) + off = (tgt : Int)) (kt : y ≤ x → pV Γ M tgt lo st n G bc bs Q) (kf : ¬ (y ≤ x) → pV Γ M (pc + 3) lo st n G bc bs Q) : pV Γ M pc lo (.int y :: .int x :: st) n G bc bs Q :=
  fun p e s m args below meth c R A Qc mc ms X ls H locs cells slots Y => lv_icmp_ge X.1 X.2.1 hd ht (fun h => kt h p e s m args below meth c R A Qc mc ms X ls H locs cells slots Y) (fun h => kf h p e s m args below meth c R A Qc mc ms X ls H locs cells slots Y)
theorem V_if_ge {x : Int32} {off : Int} {tgt : Nat} (hd : decode M.2.1 pc = .ok (.ifCond .ge off, 3)) (ht : (pc : Int) + off = (tgt : Int)) (kt : 0 ≤ x → pV Γ M tgt lo st n G bc bs Q) (kf : ¬ (0 ≤ x) → pV Γ M (pc + 3) lo st n G bc bs Q) : pV Γ M pc lo (.int x :: st) n G bc bs Q :=
  fun p e s m args below meth c R A Qc mc ms X ls H locs cells slots Y => lv_if_ge X.1 X.2.1 hd ht (fun h => kt h p e s m args below meth c R A Qc mc ms X ls H locs cells slots Y) (fun h => kf h p e s m args below meth c R A Qc mc ms X ls H locs cells slots Y)
theorem V_icmp_gt {x y : Int32} {off : Int} {tgt : Nat} (hd : decode M.2.1 pc = .ok (.if_icmp .gt off, 3)) (ht : (pc : Int) + off = (tgt : Int)) (kt : y < x → pV Γ M tgt lo st n G bc bs Q) (kf : ¬ (y < x) → pV Γ M (pc + 3) lo st n G bc bs Q) : pV Γ M pc lo (.int y :: .int x :: st) n G bc bs Q :=
  fun p e s m args below meth c R A Qc mc ms X ls H locs cells slots Y => lv_icmp_gt X.1 X.2.1 hd ht (fun h => kt h p e s m args below meth c R A Qc mc ms X ls H locs cells slots Y) (fun h => kf h p e s m args below meth c R A Qc mc ms X ls H locs cells slots Y)
theorem V_if_gt {x : Int32} {off : Int} {tgt : Nat} (hd : decode M.2.1 pc = .ok (.ifCond .gt off, 3)) (ht : (pc : Int) + off = (tgt : Int)) (kt : 0 < x → pV Γ M tgt lo st n G bc bs Q) (kf : ¬ (0 < x) → pV Γ M (pc + 3) lo st n G bc bs Q) : pV Γ M pc lo (.int x :: st) n G bc bs Q :=
  fun p e s m args below meth c R A Qc mc ms X ls H locs cells slots Y => lv_if_gt X.1 X.2.1 hd ht (fun h => kt h p e s m args below meth c R A Qc mc ms X ls H locs cells slots Y) (fun h => kf h p e s m args below meth c R A Qc mc ms X ls H locs cells slots Y)
theorem V_icmp_le {x y : Int32} {off : Int} {tgt : Nat} (hd : decode M.2.1 pc = .ok (.if_icmp .le off, 3)) (ht : (pc : Int) + off = (tgt : Int)) (kt : x ≤ y → pV Γ M tgt lo st n G bc bs Q) (kf : ¬ (x ≤ y) → pV Γ M (pc + 3) lo st n G bc bs Q) : pV Γ M pc lo (.int y :: .int x :: st) n G bc bs Q :=
  fun p e s m args below meth c R A Qc mc ms X ls H locs cells slots Y => lv_icmp_le X.1 X.2.1 hd ht (fun h => kt h p e s m args below meth c R A Qc mc ms X ls H locs cells slots Y) (fun h => kf h p e s m args below meth c R A Qc mc ms X ls H locs cells slots Y)
theorem V_if_le {x : Int32} {off : Int} {tgt : Nat} (hd : decode M.2.1 pc = .ok (.ifCond .le off, 3)) (ht : (pc : Int) + off = (tgt : Int)) (kt : x ≤ 0 → pV Γ M tgt lo st n G bc bs Q) (kf : ¬ (x ≤ 0) → pV Γ M (pc + 3) lo st n G bc bs Q) : pV Γ M pc lo (.int x :: st) n G bc bs Q :=
  fun p e s m args below meth c R A Qc mc ms X ls H locs cells slots Y => lv_if_le X.1 X.2.1 hd ht (fun h => kt h p e s m args below meth c R A Qc mc ms X ls H locs cells slots Y) (fun h => kf h p e s m args below meth c R A Qc mc ms X ls H locs cells slots Y)
theorem V_ifnull {x : Nat} {off : Int} (hd : decode M.2.1 pc = .ok (.ifnull off, 3)) (k : pV Γ M (pc + 3) lo st n G bc bs Q) : pV Γ M pc lo (.ref x :: st) n G bc bs Q :=
  fun p e s m args below meth c R A Qc mc ms X ls H locs cells slots Y => lv_ifnull X.1 X.2.1 hd (k p e s m args below meth c R A Qc mc ms X ls H locs cells slots Y)
theorem V_ifnullN {off : Int} {tgt : Nat} (hd : decode M.2.1 pc = .ok (.ifnull off, 3)) (ht : (pc : Int) + off = (tgt : Int)) (k : pV Γ M tgt lo st n G bc bs Q) : pV Γ M pc lo (.null :: st) n G bc bs Q :=
  fun p e s m args below meth c R A Qc mc ms X ls H locs cells slots Y => lv_ifnullN X.1 X.2.1 hd ht (k p e s m args below meth c R A Qc mc ms X ls H locs cells slots Y)
theorem V_ifnonnull {x : Nat} {off : Int} {tgt : Nat} (hd : decode M.2.1 pc = .ok (.ifnonnull off, 3)) (ht : (pc : Int) + off = (tgt : Int)) (k : pV Γ M tgt lo st n G bc bs Q) : pV Γ M pc lo (.ref x :: st) n G bc bs Q :=
  fun p e s m args below meth c R A Qc mc ms X ls H locs cells slots Y => lv_ifnonnull X.1 X.2.1 hd ht (k p e s m args below meth c R A Qc mc ms X ls H locs cells slots Y)
theorem V_ifnonnullN {off : Int} (hd : decode M.2.1 pc = .ok (.ifnonnull off, 3)) (k : pV Γ M (pc + 3) lo st n G bc bs Q) : pV Γ M pc lo (.null :: st) n G bc bs Q :=
  fun p e s m args below meth c R A Qc mc ms X ls H locs cells slots Y => lv_ifnonnullN X.1 X.2.1 hd (k p e s m args below meth c R A Qc mc ms X ls H locs cells slots Y)
theorem V_tableIn {dflt l0 h0 : Int} {offs : Array Int} {len : Nat} {x : Int32} {off : Int} {tgt : Nat} (hd : decode M.2.1 pc = .ok (.tableswitch dflt l0 h0 offs, len)) (h1 : ¬ x.toInt < l0) (h2 : ¬ h0 < x.toInt) (ho : offs[(x.toInt - l0).toNat]? = some off) (ht : (pc : Int) + off = (tgt : Int)) (k : pV Γ M tgt lo st n G bc bs Q) : pV Γ M pc lo (.int x :: st) n G bc bs Q :=
  fun p e s m args below meth c R A Qc mc ms X ls H locs cells slots Y => lv_tableIn X.1 X.2.1 hd h1 h2 ho ht (k p e s m args below meth c R A Qc mc ms X ls H locs cells slots Y)
theorem V_tableOut {dflt l0 h0 : Int} {offs : Array Int} {len : Nat} {x : Int32} {tgt : Nat} (hd : decode M.2.1 pc = .ok (.tableswitch dflt l0 h0 offs, len)) (h : x.toInt < l0 ∨ h0 < x.toInt) (ht : (pc : Int) + dflt = (tgt : Int)) (k : pV Γ M tgt lo st n G bc bs Q) : pV Γ M pc lo (.int x :: st) n G bc bs Q :=
  fun p e s m args below meth c R A Qc mc ms X ls H locs cells slots Y => lv_tableOut X.1 X.2.1 hd h ht (k p e s m args below meth c R A Qc mc ms X ls H locs cells slots Y)
-- returns
theorem V_ret {v : Option Value} (hk : ∀ (p : Program) (e : Env) (s : State) (m : MethodId) (args : Array Value) (below : List Frame) (meth : Method) (c : Code) (R : Room) (A : Nat → Prop) (Qc : Array Value → State → Outcome → State → Prop) (ls : Array Slot) (H : Heap) (locs : List Loc) (cells slots : Nat), p.tables.exec = Jvm.exec → c.code = M.2.1 → meth.sig.returnType = M.2.2.2.1 → meth.locks = false → (∀ t : State, t.heap = H → s.WarmedH t.vm → Qc args s (.returned v) t) → (∀ q ∈ locs, A q.base) → W p Γ.1 e R s m args below meth c H locs cells slots (MQ below Qc args s cells slots A) (F0 m pc ls st)) (hQ : Q v n G) : pV Γ M pc lo st n G bc bs Q := by
  intro p e s m args below meth c R A Qc mc ms X ls H locs cells slots Y
  obtain ⟨x1, x2, x3, x4, x5, x6, x7, x8, x9, x10, x11, x12⟩ := X
  obtain ⟨y1, y2, y3, y4, y5, y6, y7⟩ := Y
  refine W.widen (k := mc) (n := ms) (by omega) (by omega) ?_
  exact hk p e s m args below meth c R A Qc ls H locs mc ms x1 x2 x4 x5 (fun t ht hW => x12 v n G t hQ (by rw [ht]; exact y2) (by rw [ht]; exact y3) y4 (y5.F ht)) y5.2.2
theorem V_ireturn {x : Int32} (hd : decode M.2.1 pc = .ok (.ireturn, 1)) (hr : M.2.2.2.1 = some .int) (hQ : Q (some (.int x)) n G) : pV Γ M pc lo [.int x] n G bc bs Q :=
  V_ret (fun p e s m args below meth c R A Qc ls H locs cells slots h1 h2 h3 h4 h5 h6 => W.iret h1 h2 (h3.trans hr) h5 h6 hd h4) hQ
theorem V_zreturn {x : Int32} (hd : decode M.2.1 pc = .ok (.ireturn, 1)) (hr : M.2.2.2.1 = some .boolean) (hx : x = nI 0 ∨ x = nI 1) (hQ : Q (some (.int x)) n G) : pV Γ M pc lo [.int x] n G bc bs Q :=
  V_ret (fun p e s m args below meth c R A Qc ls H locs cells slots h1 h2 h3 h4 h5 h6 => W.zret h1 h2 (h3.trans hr) (by rcases hx with rfl | rfl <;> rfl) h5 h6 hd h4) hQ
theorem V_areturn {v : Value} {cn : String} (hd : decode M.2.1 pc = .ok (.areturn, 1)) (hr : M.2.2.2.1 = some (.object cn)) (hv : v = .null ∨ ∃ a, v = .ref a) (hQ : Q (some v) n G) : pV Γ M pc lo [v] n G bc bs Q :=
  V_ret (fun p e s m args below meth c R A Qc ls H locs cells slots h1 h2 h3 h4 h5 h6 => W.aret h1 h2 (h3.trans hr) (Or.inl ⟨_, rfl⟩) hv h5 h6 hd h4) hQ
theorem V_return (hd : decode M.2.1 pc = .ok (.return_, 1)) (hr : M.2.2.2.1 = none) (hQ : Q none n G) : pV Γ M pc lo [] n G bc bs Q :=
  V_ret (fun p e s m args below meth c R A Qc ls H locs cells slots h1 h2 h3 h4 h5 h6 => W.vret h1 h2 (h3.trans hr) h5 h6 hd h4) hQ
end VROWS
end
section
/-! V's rows of fields, arrays, new objects. -/
def okF (own : String) (idx ci k : Nat) : Prop := ∃ (C : String) (T : u_T) (N : Nat), pmCl[ci]? = some (C, T, N) ∧ k < N ∧ (T k).1 = C ∧ (∀ w ∈ u_ws C T N, w ∈ pmWs) ∧
  (Jvm.Cond.fieldLink own idx C (T k).2.1 (T k).2.2.1 ∈ pmWs ∨ ∃ host, Jvm.Cond.fieldLinkNest own idx C (T k).2.1 (T k).2.2.1 host ∈ pmWs)
def okP (ci k : Nat) (fin : Bool) (ty : FieldType) : Prop := ∃ (C : String) (T : u_T) (N : Nat) (ty0 : Nat → FieldType), pmCl[ci]? = some (C, T, N) ∧ k < N ∧ (∀ j, j < N → parseFieldDescriptor (T j).2.2.1 = some (ty0 j)) ∧ (∀ a, a < N → ∀ b, b < N → a ≠ b → (T a).2.1 ≠ (T b).2.1) ∧ (T k).2.2.2 = fin ∧ ty0 k = ty
def okN (own : String) (idx ci N : Nat) (fs : List Value) : Prop := ∃ (C : String) (T : u_T) (ty0 : Nat → FieldType), pmCl[ci]? = some (C, T, N) ∧ (∀ w ∈ u_ws C T N, w ∈ pmWs) ∧ (∀ j, j < N → parseFieldDescriptor (T j).2.2.1 = some (ty0 j)) ∧ Jvm.Cond.classLink own idx C ∈ pmWs ∧ Jvm.Cond.instantiable C N ∈ pmWs ∧ Jvm.Cond.initialized C ∈ pmWs ∧ ∀ j, j < N → defaultValue (ty0 j) = vp_V fs j
def okPF (own : String) (idx ci k : Nat) (ty : FieldType) : Prop := ∃ (C : String) (T : u_T) (N : Nat) (ty0 : Nat → FieldType), pmCl[ci]? = some (C, T, N) ∧ k < N ∧ (T k).1 = C ∧ C = own ∧ (∀ w ∈ u_ws C T N, w ∈ pmWs) ∧ Jvm.Cond.fieldLink own idx C (T k).2.1 (T k).2.2.1 ∈ pmWs ∧
  (∀ j, j < N → parseFieldDescriptor (T j).2.2.1 = some (ty0 j)) ∧ (∀ a, a < N → ∀ b, b < N → a ≠ b → (T a).2.1 ≠ (T b).2.1) ∧ (T k).2.2.2 = true ∧ ty0 k = ty
section VHEAP
variable {Γ : pmE} {M : pmM} {pc : Nat} {lo : pmLo} {st : List Value} {n : Nat} {G : pmG} {bc bs : Nat} {Q : pmPost}
theorem pm_one {Γ : pmE} {G : pmG} {H : Heap} (h : pmR Γ G H) {a : Nat} {e : pmC} (ha : G a = some e) : va_P Γ.2.1 pmCl [(a, pmT Γ.2.2.1 e)] H := by
  intro k q hk
  cases k with
  | zero => simp at hk; subst hk; exact h a e ha
  | succ k => simp at hk
theorem pm_vk {Γ : pmE} {s : State} (h : pmK Γ s) : va_K Γ.2.1 pmCl [] s := ⟨h.2.1, fun k q hk => by simp at hk⟩
theorem V_getf {idx ci k a : Nat} {fs : List Value} {v : Value} (hd : decode M.2.1 pc = .ok (.getfield idx, 3)) (hf : okF M.1.cls idx ci k) (hG : G a = some (.inr (ci, fs))) (hv : fs[k]? = some v) (kk : pV Γ M (pc + 3) lo (v :: st) n G bc bs Q) : pV Γ M pc lo (.ref a :: st) n G bc bs Q := by
  intro p e s m args below meth c R A Qc mc ms X ls H locs cells slots Y
  have hW := kk p e s m args below meth c R A Qc mc ms X ls H locs cells slots Y
  obtain ⟨x1, x2, x3, x4, x5, x6, x7, x8, x9, x10, x11, x12⟩ := X
  obtain ⟨C, T, N, hc, hk, hT, hin, hl⟩ := hf
  have hP : va_P Γ.2.1 pmCl [(a, .inr (ci, fs))] H := pm_one Y.2.2.1 hG
  have hts : ∀ w ∈ pmWs, w.before args s = true := fun w h => x8.1 w h args
  rcases hl with hl | ⟨host, hl⟩
  · exact va_get x1 x2 hts hin x7 (pm_vk x8) hP 0 rfl hc k hk (hts _ hl) (fun x h => hT ▸ h) hv hd hW
  · exact va_getN x1 x2 hts hin x7 (pm_vk x8) hP 0 rfl hc k hk (hts _ hl) (fun x h => hT ▸ h) hv hd hW
theorem V_putf {idx ci k a : Nat} {fs : List Value} {v : Value} {u : Value} {ty : FieldType} (hd : decode M.2.1 pc = .ok (.putfield idx, 3)) (hf : okF M.1.cls idx ci k) (hp : okP ci k false ty) (hG : G a = some (.inr (ci, fs))) (hu : fs[k]? = some u) (hn : narrow ty v = v) (hfit : fits ty v = true)
    (kk : ∀ G' : pmG, G' a = some (.inr (ci, fs.set k v)) → (∀ q, q ≠ a → G' q = G q) → pV Γ M (pc + 3) lo st n G' bc bs Q) : pV Γ M pc lo (v :: .ref a :: st) n G bc bs Q := by
  have hl : k < fs.length := (List.getElem?_eq_some_iff.mp hu).1
  intro p e s m args below meth c R A Qc mc ms X ls H locs cells slots Y
  have hW := kk _ (pmSet_self _ _ _) (fun q h => pmSet_ne _ _ h) p e s m args below meth c R A Qc mc ms X
  obtain ⟨x1, x2, x3, x4, x5, x6, x7, x8, x9, x10, x11, x12⟩ := X
  obtain ⟨y1, y2, y3, y4, y5, y6, y7⟩ := Y
  obtain ⟨C, T, N, hc, hk, hT, hin, hlk⟩ := hf
  obtain ⟨C', T', N', ty0, hc', hk', hty, hnm, hfin, hty0⟩ := hp
  have hrr : (C', T', N') = (C, T, N) := Option.some.inj (hc'.symm.trans hc)
  cases hrr
  have hts : ∀ w ∈ pmWs, w.before args s = true := fun w h => x8.1 w h args
  have hK := pm_vk x8
  have hap := va_apart (own := M.1.cls) hts hin ty0 hty hnm hK hc
  obtain ⟨r, h1, cell, q1, q2, q3, q4⟩ := y3 a _ hG
  have hr : r = (C, T, N) := Option.some.inj (h1.symm.trans hc)
  subst hr
  obtain ⟨hS, hfc, kC, hkC, hkind⟩ := hK.1 ci _ hc
  obtain ⟨cf, kf, fi, f, hi, hsl⟩ := hS k hk
  have hlay := hts _ (hin _ (u_in_lay hk))
  unfold u_lay at hlay
  rw [if_neg (by rw [hfin]; decide)] at hlay
  have hst := (u_facts hfc hkC (u_lays hts hin hk) hi).1
  have h6 := u_store hfc hkC hkind hlay hi (by rw [hty k hk, hty0]) hn hfit
  have fin : ∀ H' : Heap, H'[a]? = some (cell.setSlot f.slot v) → H'.size = H.size → (∀ q, q ≠ a → H'[q]? = H[q]?) → W p Γ.1 e R s m args below meth c H' (locs ++ [⟨a, f.slot⟩]) cells slots (MQ below Qc args s mc ms A) (F0 m (pc + 3) ls st) := by
    intro H' e1 e2 e3
    refine hW ls H' (locs ++ [⟨a, f.slot⟩]) cells slots ⟨y1, e2.trans y2, y3.set ?_ e3, pmSet_dom y4 (y4 a _ hG), y5.put e2 e3 (y4 a _ hG), y6, y7⟩
    rw [hsl] at e1
    exact ⟨_, hc, t_OB.to (V := updV (vp_V fs) k v) ⟨_, e1, q2, q3, t_set q4 hap hk v⟩ (fun j _ => vp_updV_set hl v j)⟩
  rcases hlk with hlk | ⟨host, hlk⟩
  · exact W.putK x1 x2 (f := f) ⟨x7, hts _ hlk, ⟨_, _, _, by rw [← hT]; exact hi⟩, hst⟩ (by rw [q2]; exact h6) q1 q3 (by rw [hsl]; exact k2_hasslot (q4 k hk)) rfl rfl hd fin
  · exact va_WputK x1 x2 (f := f) x7 (hts _ hlk) (by rw [← hT]; exact hi) hst (by rw [q2]; exact h6) q1 q3 (by rw [hsl]; exact k2_hasslot (q4 k hk)) rfl rfl hd fin
theorem V_putF {idx ci k a : Nat} {fs : List Value} {v : Value} {u : Value} {ty : FieldType} (hd : decode M.2.1 pc = .ok (.putfield idx, 3)) (hf : okPF M.1.cls idx ci k ty) (hin2 : M.1.name = "<init>") (hG : G a = some (.inr (ci, fs))) (hu : fs[k]? = some u) (hn : narrow ty v = v) (hfit : fits ty v = true)
    (kk : ∀ G' : pmG, G' a = some (.inr (ci, fs.set k v)) → (∀ q, q ≠ a → G' q = G q) → pV Γ M (pc + 3) lo st n G' bc bs Q) : pV Γ M pc lo (v :: .ref a :: st) n G bc bs Q := by
  have hl : k < fs.length := (List.getElem?_eq_some_iff.mp hu).1
  intro p e s m args below meth c R A Qc mc ms X ls H locs cells slots Y
  have hW := kk _ (pmSet_self _ _ _) (fun q h => pmSet_ne _ _ h) p e s m args below meth c R A Qc mc ms X
  obtain ⟨x1, x2, x3, x4, x5, x6, x7, x8, x9, x10, x11, x12⟩ := X
  obtain ⟨y1, y2, y3, y4, y5, y6, y7⟩ := Y
  obtain ⟨C, T, N, ty0, hc, hk, hT, hC, hin, hlk, hty, hnm, hfin, hty0⟩ := hf
  have hts : ∀ w ∈ pmWs, w.before args s = true := fun w h => x8.1 w h args
  have hK := pm_vk x8
  have hap := va_apart (own := M.1.cls) hts hin ty0 hty hnm hK hc
  obtain ⟨r, h1, cell, q1, q2, q3, q4⟩ := y3 a _ hG
  have hr : r = (C, T, N) := Option.some.inj (h1.symm.trans hc)
  subst hr
  obtain ⟨hS, hfc, kC, hkC, hkind⟩ := hK.1 ci _ hc
  obtain ⟨cf, kf, fi, f, hi, hsl⟩ := hS k hk
  have hlay := hts _ (hin _ (u_in_lay hk))
  unfold u_lay at hlay
  rw [if_pos hfin] at hlay
  have hst := (u_facts hfc hkC (u_lays hts hin hk) hi).1
  have hcf : m.cls = cf := by
    obtain ⟨_, _, c', _, _, _, -, -, hf', -, -, -, hown2, -⟩ := Jvm.Cond.laysFinal_spec hlay
    have e1 : c' = cf := by have := hi.symm.trans hf'; simp at this; exact this.1.symm
    rw [hT, hC] at hown2
    rw [← e1]; exact Option.some.inj (x7.symm.trans hown2)
  have h6 := u_fits hfc hkC hkind (Or.inr hlay) hi (by rw [hty k hk, hty0]) hn hfit
  refine W.putFinK x1 x2 x7 (hts _ hlk) (by rw [← hT]; exact hi) hst hcf (x6.trans hin2) (by rw [q2]; exact h6) q1 q3 (by rw [hsl]; exact k2_hasslot (q4 k hk)) rfl rfl hd fun H' e1 e2 e3 => ?_
  refine hW ls H' (locs ++ [⟨a, f.slot⟩]) cells slots ⟨y1, e2.trans y2, y3.set ?_ e3, pmSet_dom y4 (y4 a _ hG), y5.put e2 e3 (y4 a _ hG), y6, y7⟩
  rw [hsl] at e1
  exact ⟨_, hc, t_OB.to (V := updV (vp_V fs) k v) ⟨_, e1, q2, q3, t_set q4 hap hk v⟩ (fun j _ => vp_updV_set hl v j)⟩
theorem pm_grow {A : Nat → Prop} {H0 H H' : Heap} {locs : List Loc} {h : Nat} (hS : va_S A H0 H locs) (hh : H.size = h) (z : H'.size = h + 1) (o : ∀ q : Nat, q < h → H'[q]? = H[q]?) : va_S A H0 H' locs :=
  ⟨Nat.le_trans hS.1 (by omega), fun q h1 h2 => (o q (by have := hS.1; omega)).trans (hS.2.1 q h1 h2), hS.2.2⟩
theorem V_new {idx ci N : Nat} {fs : List Value} {bc' bs' : Nat} (hd : decode M.2.1 pc = .ok (.new idx, 3)) (hf : okN M.1.cls idx ci N fs) (hbc : bc = bc' + 1) (hbs : bs = bs' + N) (kk : ∀ G' : pmG, G' n = some (.inr (ci, fs)) → (∀ q, q ≠ n → G' q = G q) → pV Γ M (pc + 3) lo (.ref n :: st) (n + 1) G' bc' bs' Q) : pV Γ M pc lo st n G bc bs Q := by
  intro p e s m args below meth c R A Qc mc ms X ls H locs cells slots Y
  have hW := kk _ (pmSet_self _ _ _) (fun q h => pmSet_ne _ _ h) p e s m args below meth c R A Qc mc ms X
  obtain ⟨x1, x2, x3, x4, x5, x6, x7, x8, x9, ⟨r1, r2, r3, r4⟩, x11, x12⟩ := X
  obtain ⟨y1, y2, y3, y4, y5, y6, y7⟩ := Y
  obtain ⟨C, T, ty0, hc, hin, hty, hcl, hinst, hini, hfs⟩ := hf
  have hts : ∀ w ∈ pmWs, w.before args s = true := fun w h => x8.1 w h args
  have hKn := x8.2.1 ci _ hc
  have hA : A n := x11 n (by rw [← y2]; exact y5.1)
  refine W.newcK x1 x2 x7 (hts _ hcl) (hts _ hinst) (hts _ hini) rfl hd (by omega) (by omega) hKn.2.1 y2 fun H1 kC hkC e1 z1 o1 => ?_
  exact hW ls H1 locs (cells + 1) (slots + N) ⟨y1, z1, y3.push y2 ⟨_, hc, (u_born ty0 hts hin hKn hkC e1 hty).to hfs⟩ o1, pmSet_dom y4 hA, pm_grow y5 y2 z1 o1, by omega, by omega⟩
theorem V_newi {x : Int32} {N bc' bs' : Nat} (hd : decode M.2.1 pc = .ok (.newarray .int, 2)) (hx : x = nI N) (hN : N < 1000000) (hw : Jvm.Cond.arrayClass .int ∈ pmWs) (hk : pmTy 0 = some .int) (hbc : bc = bc' + 1) (hbs : bs = bs' + N) (kk : ∀ G' : pmG, G' n = some (.inl (0, N, .inl (fun _ => 0))) → (∀ q, q ≠ n → G' q = G q) → pV Γ M (pc + 2) lo (.ref n :: st) (n + 1) G' bc' bs' Q) : pV Γ M pc lo (.int x :: st) n G bc bs Q := by
  intro p e s m args below meth c R A Qc mc ms X ls H locs cells slots Y
  have hW := kk _ (pmSet_self _ _ _) (fun q h => pmSet_ne _ _ h) p e s m args below meth c R A Qc mc ms X
  obtain ⟨x1, x2, x3, x4, x5, x6, x7, x8, x9, ⟨r1, r2, r3, r4⟩, x11, x12⟩ := X
  obtain ⟨y1, y2, y3, y4, y5, y6, y7⟩ := Y
  subst hx
  have hA : A n := x11 n (by rw [← y2]; exact y5.1)
  refine va_newaK (atype := .int) x1 x2 (x8.1 _ hw args) rfl hd rfl (nI_pos (by omega)) (nI_clamp (by omega)) (by show N * 4 ≤ _; omega) (by omega) (by omega) y2 fun H1 cA e1 z1 o1 hAr hNm => ?_
  have hcA : cA = Γ.2.2.1 0 := Option.some.inj (hNm.symm.trans (x8.2.2 0 _ hk).2)
  subst hcA
  exact hW ls H1 locs (cells + 1) (slots + N) ⟨y1, z1, y3.push y2 (by show H1[n]? = some (vp_cell _ _); rw [vp_cell_i]; exact e1) o1, pmSet_dom y4 hA, pm_grow y5 y2 z1 o1, by omega, by omega⟩
theorem V_newz {x : Int32} {N bc' bs' : Nat} (hd : decode M.2.1 pc = .ok (.newarray .boolean, 2)) (hx : x = nI N) (hN : N < 1000000) (hw : Jvm.Cond.arrayClass .boolean ∈ pmWs) (hk : pmTy 1 = some .boolean) (hbc : bc = bc' + 1) (hbs : bs = bs' + N) (kk : ∀ G' : pmG, G' n = some (.inl (1, N, .inl (fun _ => 0))) → (∀ q, q ≠ n → G' q = G q) → pV Γ M (pc + 2) lo (.ref n :: st) (n + 1) G' bc' bs' Q) : pV Γ M pc lo (.int x :: st) n G bc bs Q := by
  intro p e s m args below meth c R A Qc mc ms X ls H locs cells slots Y
  have hW := kk _ (pmSet_self _ _ _) (fun q h => pmSet_ne _ _ h) p e s m args below meth c R A Qc mc ms X
  obtain ⟨x1, x2, x3, x4, x5, x6, x7, x8, x9, ⟨r1, r2, r3, r4⟩, x11, x12⟩ := X
  obtain ⟨y1, y2, y3, y4, y5, y6, y7⟩ := Y
  subst hx
  have hA : A n := x11 n (by rw [← y2]; exact y5.1)
  refine va_newaK (atype := .boolean) x1 x2 (x8.1 _ hw args) rfl hd rfl (nI_pos (by omega)) (nI_clamp (by omega)) (by show N * 1 ≤ _; omega) (by omega) (by omega) y2 fun H1 cA e1 z1 o1 hAr hNm => ?_
  have hcA : cA = Γ.2.2.1 1 := Option.some.inj (hNm.symm.trans (x8.2.2 1 _ hk).2)
  subst hcA
  exact hW ls H1 locs (cells + 1) (slots + N) ⟨y1, z1, y3.push y2 (by show H1[n]? = some (vp_cell _ _); rw [vp_cell_i]; exact e1) o1, pmSet_dom y4 hA, pm_grow y5 y2 z1 o1, by omega, by omega⟩
theorem V_anew {x : Int32} {idx k N bc' bs' : Nat} {C : String} (hd : decode M.2.1 pc = .ok (.anewarray idx, 3)) (hx : x = nI N) (hN : N < 1000000) (hcl : Jvm.Cond.classLink M.1.cls idx C ∈ pmWs) (hov : Jvm.Cond.arrayOver (.object C) ∈ pmWs) (hk : pmTy k = some (.object C)) (hbc : bc = bc' + 1) (hbs : bs = bs' + N) (kk : ∀ G' : pmG, G' n = some (.inl (k, N, .inr (.inr (.inr (.inr (fun _ => none)))))) → (∀ q, q ≠ n → G' q = G q) → pV Γ M (pc + 3) lo (.ref n :: st) (n + 1) G' bc' bs' Q) : pV Γ M pc lo (.int x :: st) n G bc bs Q := by
  intro p e s m args below meth c R A Qc mc ms X ls H locs cells slots Y
  have hW := kk _ (pmSet_self _ _ _) (fun q h => pmSet_ne _ _ h) p e s m args below meth c R A Qc mc ms X
  obtain ⟨x1, x2, x3, x4, x5, x6, x7, x8, x9, ⟨r1, r2, r3, r4⟩, x11, x12⟩ := X
  obtain ⟨y1, y2, y3, y4, y5, y6, y7⟩ := Y
  subst hx
  have hA : A n := x11 n (by rw [← y2]; exact y5.1)
  have hcN : (nI N).toNatClampNeg = N := nI_clamp (by omega)
  refine W.anew x1 x2 x7 (x8.1 _ hcl args) (x8.1 _ hov args) rfl hd rfl (nI_pos (by omega)) (by rw [hcN]; omega) (by omega) (by rw [hcN]; omega) fun cA kA comp f1 f2 f3 f4 => ?_
  rw [hcN]
  subst y2
  generalize hH1 : H.push ({ cls := cA, slots := Array.replicate N .null, vm := .none } : Cell) = H1
  have z1 : H1.size = H.size + 1 := by rw [← hH1, Array.size_push]
  have e1 : H1[H.size]? = some (arrV cA N (fun _ => .null)) := by rw [← hH1, Array.getElem?_push_size, ← arrV_new]
  have o1 : ∀ q : Nat, q < H.size → H1[q]? = H[q]? := fun q hq => by rw [← hH1, Array.getElem?_push, if_neg (Nat.ne_of_lt hq)]
  obtain ⟨kA', comp', g1, g2, g3, g4⟩ := (x8.2.2 k _ hk).2
  have hcA : cA = Γ.2.2.1 k := Option.some.inj (f1.symm.trans g4)
  subst hcA
  exact hW ls H1 locs (cells + 1) (slots + N) ⟨y1, z1, y3.push rfl (by show H1[H.size]? = some (vp_cell _ _); rw [vp_cell_q]; exact e1) o1, pmSet_dom y4 hA, pm_grow y5 rfl z1 o1, by omega, by omega⟩
theorem V_iaload {x : Int32} {a N j : Nat} {f : Nat → Int32} (hd : decode M.2.1 pc = .ok (.iaload, 1)) (hk : pmTy 0 = some .int) (hG : G a = some (.inl (0, N, .inl f))) (hx : x = nI j) (hj : j < N) (hN : N < 2 ^ 31) (kk : pV Γ M (pc + 1) lo (.int (f j) :: st) n G bc bs Q) : pV Γ M pc lo (.int x :: .ref a :: st) n G bc bs Q := by
  intro p e s m args below meth c R A Qc mc ms X ls H locs cells slots Y
  have hW := kk p e s m args below meth c R A Qc mc ms X ls H locs cells slots Y
  subst hx
  have hc := nI_clamp (n := j) (by omega)
  have h1 : H[a]? = some (vp_cell (Γ.2.2.1 0) (N, .inl f)) := Y.2.2.1 a _ hG
  exact W.iald (v := .int (f j)) X.1 X.2.1 h1 ((X.2.2.2.2.2.2.2.1.2.2 0 _ hk).1 N (fun j => .int (f j))) (fun q => by cases q) (by show ¬ (_ ∨ (arrV _ _ _).slots.size ≤ _); rw [arrV_size]; exact nI_in hj hN) (by show (arrV _ _ _).slots[_]? = _; rw [hc, arrV_read _ _ hj]) rfl rfl hd hW
theorem V_baload {x : Int32} {a N j : Nat} {f : Nat → Int32} (hd : decode M.2.1 pc = .ok (.baload, 1)) (hk : pmTy 1 = some .boolean) (hG : G a = some (.inl (1, N, .inl f))) (hx : x = nI j) (hj : j < N) (hN : N < 2 ^ 31) (kk : pV Γ M (pc + 1) lo (.int (f j) :: st) n G bc bs Q) : pV Γ M pc lo (.int x :: .ref a :: st) n G bc bs Q := by
  intro p e s m args below meth c R A Qc mc ms X ls H locs cells slots Y
  have hW := kk p e s m args below meth c R A Qc mc ms X ls H locs cells slots Y
  subst hx
  have hc := nI_clamp (n := j) (by omega)
  have h1 : H[a]? = some (vp_cell (Γ.2.2.1 1) (N, .inl f)) := Y.2.2.1 a _ hG
  exact W.zald (v := .int (f j)) X.1 X.2.1 h1 ((X.2.2.2.2.2.2.2.1.2.2 1 _ hk).1 N (fun j => .int (f j))) (fun q => by cases q) (by show ¬ (_ ∨ (arrV _ _ _).slots.size ≤ _); rw [arrV_size]; exact nI_in hj hN) (by show (arrV _ _ _).slots[_]? = _; rw [hc, arrV_read _ _ hj]) rfl rfl hd hW
theorem V_aaload {x : Int32} {a k N j : Nat} {C : String} {f : Nat → Option Nat} (hd : decode M.2.1 pc = .ok (.aaload, 1)) (hk : pmTy k = some (.object C)) (hG : G a = some (.inl (k, N, .inr (.inr (.inr (.inr f)))))) (hx : x = nI j) (hj : j < N) (hN : N < 2 ^ 31) (kk : pV Γ M (pc + 1) lo (va_rf (f j) :: st) n G bc bs Q) : pV Γ M pc lo (.int x :: .ref a :: st) n G bc bs Q := by
  intro p e s m args below meth c R A Qc mc ms X ls H locs cells slots Y
  have hW := kk p e s m args below meth c R A Qc mc ms X ls H locs cells slots Y
  subst hx
  have hc := nI_clamp (n := j) (by omega)
  have h1 : H[a]? = some (vp_cell (Γ.2.2.1 k) (N, .inr (.inr (.inr (.inr f))))) := Y.2.2.1 a _ hG
  exact W.aald (v := va_rf (f j)) (ty := .object C) X.1 X.2.1 h1 ((X.2.2.2.2.2.2.2.1.2.2 k _ hk).1 N (fun j => va_rf (f j))) rfl (fun q => by cases q) (by show ¬ (_ ∨ (arrV _ _ _).slots.size ≤ _); rw [arrV_size]; exact nI_in hj hN) (by show (arrV _ _ _).slots[_]? = _; rw [hc, arrV_read _ _ hj]) rfl rfl hd hW
theorem V_alen {a k : Nat} {v : Int32} {ty : FieldType} {y : vp_A} (hd : decode M.2.1 pc = .ok (.arraylength, 1)) (hk : pmTy k = some ty) (hG : G a = some (.inl (k, y))) (hv : nI y.1 = v) (kk : pV Γ M (pc + 1) lo (.int v :: st) n G bc bs Q) : pV Γ M pc lo (.ref a :: st) n G bc bs Q := by
  intro p e s m args below meth c R A Qc mc ms X ls H locs cells slots Y
  have hW := kk p e s m args below meth c R A Qc mc ms X ls H locs cells slots Y
  have hP : va_P Γ.2.1 pmCl [(a, .inl (Γ.2.2.1 k, y))] H := pm_one Y.2.2.1 hG
  have hK8 := X.2.2.2.2.2.2.2.1
  exact va_alen (tys := [(Γ.2.2.1 k, ty)]) X.1 X.2.1 ⟨hK8.2.1, fun j q hq => by
    cases j with
    | zero => simp at hq; subst hq; exact hK8.2.2 k _ hk
    | succ j => simp at hq⟩ hP 0 0 rfl rfl hv hd hW
theorem V_iastore {x z : Int32} {a N j : Nat} {f : Nat → Int32} (hd : decode M.2.1 pc = .ok (.iastore, 1)) (hk : pmTy 0 = some .int) (hG : G a = some (.inl (0, N, .inl f))) (hx : x = nI j) (hj : j < N) (hN : N < 2 ^ 31) (kk : ∀ G' : pmG, G' a = some (.inl (0, N, .inl (upd f j z))) → (∀ q, q ≠ a → G' q = G q) → pV Γ M (pc + 1) lo st n G' bc bs Q) : pV Γ M pc lo (.int z :: .int x :: .ref a :: st) n G bc bs Q := by
  intro p e s m args below meth c R A Qc mc ms X ls H locs cells slots Y
  have hW := kk _ (pmSet_self _ _ _) (fun q h => pmSet_ne _ _ h) p e s m args below meth c R A Qc mc ms X
  obtain ⟨x1, x2, x3, x4, x5, x6, x7, x8, x9, x10, x11, x12⟩ := X
  obtain ⟨y1, y2, y3, y4, y5, y6, y7⟩ := Y
  subst hx
  have hc := nI_clamp (n := j) (by omega)
  have h1 : H[a]? = some (vp_cell (Γ.2.2.1 0) (N, .inl f)) := y3 a _ hG
  refine W.iast x1 x2 h1 ((x8.2.2 0 _ hk).1 N (fun j => .int (f j))) (fun q => by cases q) (by show ¬ (_ ∨ (arrV _ _ _).slots.size ≤ _); rw [arrV_size]; exact nI_in hj hN) rfl rfl hd fun H1 e1 z1 oq => ?_
  refine hW ls H1 _ cells slots ⟨y1, z1.trans y2, y3.set ?_ oq, pmSet_dom y4 (y4 a _ hG), y5.put z1 oq (y4 a _ hG), y6, y7⟩
  show H1[a]? = some (vp_cell _ _)
  rw [e1, hc, vp_cell_i, vp_cell_i, arrV_store]
  congr 2
  funext q
  by_cases hq : q = j
  · subst hq
    simp [updV, upd]
  · simp [updV, upd, hq]
theorem V_bastore {x z : Int32} {a N j : Nat} {f : Nat → Int32} (hd : decode M.2.1 pc = .ok (.bastore, 1)) (hk : pmTy 1 = some .boolean) (hG : G a = some (.inl (1, N, .inl f))) (hx : x = nI j) (hj : j < N) (hN : N < 2 ^ 31) (hz : z = nI 0 ∨ z = nI 1) (kk : ∀ G' : pmG, G' a = some (.inl (1, N, .inl (upd f j z))) → (∀ q, q ≠ a → G' q = G q) → pV Γ M (pc + 1) lo st n G' bc bs Q) : pV Γ M pc lo (.int z :: .int x :: .ref a :: st) n G bc bs Q := by
  intro p e s m args below meth c R A Qc mc ms X ls H locs cells slots Y
  have hW := kk _ (pmSet_self _ _ _) (fun q h => pmSet_ne _ _ h) p e s m args below meth c R A Qc mc ms X
  obtain ⟨x1, x2, x3, x4, x5, x6, x7, x8, x9, x10, x11, x12⟩ := X
  obtain ⟨y1, y2, y3, y4, y5, y6, y7⟩ := Y
  subst hx
  have hc := nI_clamp (n := j) (by omega)
  have hnz : vp_nar .boolean z = z := by rcases hz with rfl | rfl <;> rfl
  have h1 : H[a]? = some (vp_cell (Γ.2.2.1 1) (N, .inl f)) := y3 a _ hG
  refine W.zast x1 x2 h1 ((x8.2.2 1 _ hk).1 N (fun j => .int (f j))) (fun q => by cases q) (by show ¬ (_ ∨ (arrV _ _ _).slots.size ≤ _); rw [arrV_size]; exact nI_in hj hN) rfl rfl hd fun H1 e1 z1 oq => ?_
  refine hW ls H1 _ cells slots ⟨y1, z1.trans y2, y3.set ?_ oq, pmSet_dom y4 (y4 a _ hG), y5.put z1 oq (y4 a _ hG), y6, y7⟩
  show H1[a]? = some (vp_cell _ _)
  rw [e1, hc, vp_cell_i, vp_cell_i, arrV_store]
  congr 2
  funext q
  by_cases hq : q = j
  · subst hq
    rcases hz with rfl | rfl <;> (simp [updV, upd]; try rfl)
  · simp [updV, upd, hq]
theorem V_aastore {x : Int32} {a b ci N j : Nat} {fs : List Value} {f : Nat → Option Nat} {r : vw_C} (hd : decode M.2.1 pc = .ok (.aastore, 1)) (hk : pmTy (ci + 2) = some (.object r.1)) (hc0 : pmCl[ci]? = some r) (hG : G a = some (.inl (ci + 2, N, .inr (.inr (.inr (.inr f)))))) (hB : G b = some (.inr (ci, fs))) (hx : x = nI j) (hj : j < N) (hN : N < 2 ^ 31)
    (kk : ∀ G' : pmG, G' a = some (.inl (ci + 2, N, .inr (.inr (.inr (.inr (va_up f j (some b))))))) → (∀ q, q ≠ a → G' q = G q) → pV Γ M (pc + 1) lo st n G' bc bs Q) : pV Γ M pc lo (.ref b :: .int x :: .ref a :: st) n G bc bs Q := by
  intro p e s m args below meth c R A Qc mc ms X ls H locs cells slots Y
  have hW := kk _ (pmSet_self _ _ _) (fun q h => pmSet_ne _ _ h) p e s m args below meth c R A Qc mc ms X
  obtain ⟨x1, x2, x3, x4, x5, x6, x7, x8, x9, x10, x11, x12⟩ := X
  obtain ⟨y1, y2, y3, y4, y5, y6, y7⟩ := Y
  subst hx
  have hc := nI_clamp (n := j) (by omega)
  have h1 : H[a]? = some (vp_cell (Γ.2.2.1 (ci + 2)) (N, .inr (.inr (.inr (.inr f))))) := y3 a _ hG
  obtain ⟨r', hr', cellV, g1, g2, g3, -⟩ := y3 b _ hB
  have hcls := (x8.2.1 ci r hc0).2
  obtain ⟨kA, comp, k1, k2, k3, -⟩ := (x8.2.2 (ci + 2) _ hk).2
  have hcomp : comp = Γ.2.1.1 ci := Option.some.inj (k3.symm.trans hcls.1)
  subst hcomp
  obtain ⟨kC, hkC, -⟩ := hcls.2
  refine W.aast x1 x2 h1 (fun q h => by cases h) (fun h => by cases h) k1 k2 rfl hkC ⟨nI_pos (by omega), by show _ < (arrV _ _ _).slots.size; rw [arrV_size, hc]; exact hj⟩ g1 (fun q h => by rw [g3] at h; cases h) (by rw [g2]; exact hkC) (by rw [g2]; exact va_assign hcls) rfl rfl hd fun H1 e1 z1 oq => ?_
  refine hW ls H1 _ cells slots ⟨y1, z1.trans y2, y3.set ?_ oq, pmSet_dom y4 (y4 a _ hG), y5.put z1 oq (y4 a _ hG), y6, y7⟩
  show H1[a]? = some (vp_cell _ _)
  rw [e1, hc, vp_cell_q, vp_cell_q, arrV_store]
  congr 2
  funext q
  by_cases hq : q = j
  · subst hq
    simp [updV, va_up, va_rf]
  · simp [updV, va_up, hq]
theorem V_sld {x : Int32} {j : Nat} (hd : decode M.2.1 pc = .ok (.iaload, 1)) (hx : x = nI j) (hj : j < Γ.2.2.2.2.1) (hN : Γ.2.2.2.2.1 < 2 ^ 31) (kk : pV Γ M (pc + 1) lo (.int (Γ.2.2.2.2.2 j) :: st) n G bc bs Q) : pV Γ M pc lo (.int x :: .ref Γ.2.2.2.1 :: st) n G bc bs Q := by
  intro p e s m args below meth c R A Qc mc ms X ls H locs cells slots Y
  have hW := kk p e s m args below meth c R A Qc mc ms X ls H locs cells slots Y
  obtain ⟨x1, x2, x3, x4, x5, x6, x7, x8, ⟨⟨x9, x9b⟩, x9c⟩, x10, x11, x12⟩ := X
  obtain ⟨y1, y2, y3, y4, y5, y6, y7⟩ := Y
  subst hx
  have hc := nI_clamp (n := j) (by omega)
  exact va_sld x1 x2 x9 x9b x9c y5 (nI_in hj hN) hd (by rw [hc]; exact hW)
theorem V_slen (hd : decode M.2.1 pc = .ok (.arraylength, 1)) (kk : pV Γ M (pc + 1) lo (.int (nI Γ.2.2.2.2.1) :: st) n G bc bs Q) : pV Γ M pc lo (.ref Γ.2.2.2.1 :: st) n G bc bs Q := by
  intro p e s m args below meth c R A Qc mc ms X ls H locs cells slots Y
  have hW := kk p e s m args below meth c R A Qc mc ms X ls H locs cells slots Y
  obtain ⟨x1, x2, x3, x4, x5, x6, x7, x8, ⟨⟨x9, x9b⟩, x9c⟩, x10, x11, x12⟩ := X
  obtain ⟨y1, y2, y3, y4, y5, y6, y7⟩ := Y
  exact va_slen x1 x2 x9 x9b x9c y5 hd hW
end VHEAP
end
section
/-! V's rows of calls. A method's contract is V at its entry, for every post; a call goes on behind it. -/
def okM (M : pmM) (np : Nat) : Prop := Jvm.Cond.code M.1 M.2.1 M.2.2.1 M.2.2.2.1 ∈ pmWs ∧ Jvm.Cond.initialized M.1.cls ∈ pmWs ∧ plainName M.1.cls = true ∧ M.1.cls ≠ "java/lang/invoke/MethodHandle" ∧ M.1.cls ≠ "java/lang/invoke/VarHandle" ∧ (parseMethodDescriptor M.1.desc).map (fun d => d.parameters.length) = some np ∧ M.2.2.1 ≤ 21
def okL (own : String) (idx : Nat) (M : pmM) : Prop := Jvm.Cond.methodLink own idx M.1 ∈ pmWs ∨ ∃ host, Jvm.Cond.methodLinkNest own idx M.1 host ∈ pmWs
def okV (M : pmM) : Prop := Jvm.Cond.instanceMethod M.1 ∈ pmWs ∧ Jvm.Cond.selects M.1.cls M.1 M.1 ∈ pmWs
def okCV (M : pmM) (idx : Nat) (M' : pmM) (ci np : Nat) : Prop := okL M.1.cls idx M' ∧ okM M' np ∧ okV M' ∧ M'.2.2.2.2 < M.2.2.2.2 ∧ (∃ r : vw_C, pmCl[ci]? = some r ∧ r.1 = M'.1.cls) ∧ np + 1 ≤ M'.2.2.1
def okCS (M : pmM) (idx : Nat) (M' : pmM) (np : Nat) : Prop := okL M.1.cls idx M' ∧ okM M' np ∧ Jvm.Cond.static M'.1 ∈ pmWs ∧ M'.2.2.2.2 < M.2.2.2.2 ∧ np ≤ M'.2.2.1
def okCI (M : pmM) (idx : Nat) (M' : pmM) (np : Nat) : Prop := okL M.1.cls idx M' ∧ okM M' np ∧ (Jvm.Cond.instanceMethod M'.1 ∈ pmWs ∧ M'.1.name = "<init>" ∧ M'.2.2.2.1 = none) ∧ M'.2.2.2.2 < M.2.2.2.2 ∧ np + 1 ≤ M'.2.2.1
section VCALLS
variable {Γ : pmE} {M M' : pmM} {pc : Nat} {lo : pmLo} {st : List Value} {n : Nat} {G : pmG} {bc bs : Nat} {Q : pmPost}
def pmPc (Γ : pmE) (vs : List Value) (n : Nat) (G : pmG) : Array Value → State → Prop := fun v U => v = vs.toArray ∧ U.heap.size = n ∧ pmR Γ G U.heap ∧ pmK Γ U ∧ pmS Γ U U.heap ∧ G Γ.2.2.2.1 = none
def pmQc (Γ : pmE) (n : Nat) (G : pmG) (Q : pmPost) : Array Value → State → Outcome → State → Prop := fun _ st oc t => ∃ (r : Option Value) (n' : Nat) (G' : pmG), oc = .returned r ∧ Q r n' G' ∧ t.heap.size = n' ∧ pmR Γ G' t.heap ∧ (∀ a e, G' a = some e → pmA G n a) ∧ va_F (pmA G n) st t
def pmRm (M : pmM) (bc bs : Nat) : Room := { frames := M.2.2.2.2, cells := bc, slots := bs, locals := 40 * M.2.2.2.2 }
theorem pmPc.blind {vs : List Value} : FrameBlind (pmPc Γ vs n G) := fun a U g mk h => by
  obtain ⟨h1, h2, h3, h4, h5, h6⟩ := h
  exact ⟨h1, h2, h3, h4.moved (U := U.calling g mk a) (State.WarmedH.refl U), ⟨h5.1.moved (U := U.calling g mk a) (Vm.Alike.refl _), h5.2⟩, h6⟩
theorem pV.met {vs : List Value} (hp : plainName M.1.cls = true) (hv : ∀ v ∈ vs, v.category = 1) (hn : vs.length ≤ M.2.2.1) (h : pV Γ M 0 (pmIn vs M.2.2.1) [] n G bc bs Q) :
    Met Γ.1 M.1 [Jvm.Cond.code M.1 M.2.1 M.2.2.1 M.2.2.2.1] (pmRm M bc bs) (pmPc Γ vs n G) (pmQc Γ n G Q) bc bs (pmA G n) := by
  refine Met.ofW (cc := M.2.1) (maxL := M.2.2.1) (ret := M.2.2.2.1) hp rfl ?_
  intro p e s m args below meth c s₁ B hml hpc
  obtain ⟨rfl, hsz, hR, hK, hS, hb⟩ := hpc
  rw [lg_entry_eq]
  refine h p e s m _ below meth c _ (pmA G n) (pmQc Γ n G Q) bc bs ⟨B.exec, B.bytes, hml, B.returns, B.notSynchronized, (name_of_methodNamed B.named B.method).1, findClass_of_methodNamed B.named, hK, ⟨hS, ?_⟩, ⟨Nat.le_refl _, Nat.le_refl _, Nat.le_refl _, Nat.le_refl _⟩, fun q hq => Or.inr (by rw [← hsz]; exact hq), ?_⟩ _ s.heap [] 0 0 ⟨pmL.entry hv hn, hsz, hR, fun a e he => Or.inl ⟨e, he⟩, va_S.rf, Nat.zero_add _, Nat.zero_add _⟩
  · rintro (⟨e, he⟩ | h1)
    · rw [hb] at he; cases he
    · have := hS.2
      rw [hsz] at this
      exact absurd h1 (by omega)
  · intro r n' G' t hq h1 h2 h3 h4
    exact ⟨r, n', G', rfl, hq, h1, h2, h3, h4⟩
theorem V_run {bc1 bs1 bc' bs' : Nat} {rest : List Value} {p : Program} {e : Env} {s : State} {m : MethodId} {args a : Array Value} {below : List Frame} {meth : Method} {c : Code} {R : Room} {A : Nat → Prop} {Qc : Array Value → State → Outcome → State → Prop} {mc ms : Nat} {ls : Array Slot} {H : Heap} {locs : List Loc} {cells slots : Nat}
    (X : pmX Γ M p s m args meth c R A Qc mc ms Q) (Y : pmY Γ M s A mc ms ls H locs cells slots lo n G bc bs) (hbc : bc = bc1 + bc') (hbs : bs = bs1 + bs')
    (hr : va_Run p Γ.1 e R s m args below meth c H locs cells slots bc1 bs1 (F0 m pc ls st) rest (pmQc Γ n G (fun r n' G' => pV Γ M (pc + 3) lo (pmPush r rest) n' G' bc' bs' Q) a) (pmA G n)) : W p Γ.1 e R s m args below meth c H locs cells slots (MQ below Qc args s mc ms A) (F0 m pc ls st) := by
  intro T hT X0
  obtain ⟨v, st₀, t, T', L, h0, X', hL, e1, e2, ⟨r, n', G', hv, hV, hsz, hR', hdom, hF⟩, st'⟩ := hr T hT X0
  cases hv
  obtain ⟨y1, y2, y3, y4, y5, y6, y7⟩ := Y
  have hAA : ∀ q, pmA G n q → A q := by
    rintro q (⟨e, he⟩ | hq)
    · exact y4 q e he
    · exact X.2.2.2.2.2.2.2.2.2.2.1 q (by have := y5.1; omega)
  have hF2 := hF.2
  have hF1 := hF.1
  rw [h0] at hF1 hF2
  have hS' : va_S A s.heap T'.heap (locs ++ L) := by
    refine ⟨Nat.le_trans y5.1 (by rw [e1]; exact hF1), fun q g1 g2 => ?_, fun q hq => ?_⟩
    · rw [e1, hF2 q (Nat.lt_of_lt_of_le g1 y5.1) (fun z => g2 (hAA q z))]
      exact y5.2.1 q g1 g2
    · rcases List.mem_append.mp hq with h | h
      · exact y5.2.2 q h
      · exact hAA _ (hL q h)
  obtain ⟨t2, a1, b1⟩ := hV p e s m args below meth c R A Qc mc ms X ls T'.heap (locs ++ L) (cells + bc1) (slots + bs1) ⟨y1, by rw [e1]; exact hsz, by rw [e1]; exact hR', fun a e he => hAA a (hdom a e he), hS', by omega, by omega⟩ T' rfl X'
  refine ⟨t2, st' t2 ?_, b1⟩
  rw [pmPush_eq]
  exact a1
theorem pm_pre {p : Program} {s : State} {m : MethodId} {args : Array Value} {meth : Method} {c : Code} {R : Room} {A : Nat → Prop} {Qc : Array Value → State → Outcome → State → Prop} {mc ms : Nat} {ls : Array Slot} {H : Heap} {locs : List Loc} {cells slots : Nat} (vs : List Value)
    (X : pmX Γ M p s m args meth c R A Qc mc ms Q) (Y : pmY Γ M s A mc ms ls H locs cells slots lo n G bc bs) : ∀ U : State, U.heap = H → s.WarmedH U.vm → pmPc Γ vs n G vs.toArray U := by
  intro U hU hW
  obtain ⟨x1, x2, x3, x4, x5, x6, x7, x8, ⟨⟨x9, x9b⟩, x9c⟩, x10, x11, x12⟩ := X
  obtain ⟨y1, y2, y3, y4, y5, y6, y7⟩ := Y
  refine ⟨rfl, by rw [hU]; exact y2, by rw [hU]; exact y3, x8.moved hW, ⟨(x9.kept (H1 := U.heap) (by rw [hU]; exact y5.2.1 _ x9b x9c)).moved hW.alike, by rw [hU]; exact Nat.lt_of_lt_of_le x9b y5.1⟩, ?_⟩
  cases hb : G Γ.2.2.2.1 with
  | none => rfl
  | some e => exact absurd (y4 _ e hb) x9c
theorem pm_words {s : State} {M' : pmM} (hK : pmK Γ s) (h : Jvm.Cond.code M'.1 M'.2.1 M'.2.2.1 M'.2.2.2.1 ∈ pmWs) : ∀ w ∈ [Jvm.Cond.code M'.1 M'.2.1 M'.2.2.1 M'.2.2.2.1], ∀ (a' : Array Value) (U : State), s.WarmedH U.vm → w.before a' U = true := by
  intro w hw a' U hW
  rw [List.mem_singleton.mp hw]
  exact (hK.moved hW).1 _ h a'
theorem V_callV {idx ci b bc1 bs1 bc' bs' : Nat} {fs : List Value} {As rest : List Value} {lo' : pmLo} (hd : decode M.2.1 pc = .ok (.invokevirtual idx, 3)) (hk : okCV M idx M' ci As.length)
    (hG : G b = some (.inr (ci, fs))) (hst : st = As.reverse ++ .ref b :: rest) (hrest0 : Nat.ble (rest.map fun v => v.category).sum 8 = true) (hcat0 : As.all (fun v => v.category == 1) = true) (hlo : lo' = pmIn (.ref b :: As) M'.2.2.1) (hbc : bc = bc1 + bc') (hbs : bs = bs1 + bs')
    (kk : pV Γ M' 0 lo' [] n G bc1 bs1 (fun r n' G' => pV Γ M (pc + 3) lo (pmPush r rest) n' G' bc' bs' Q)) : pV Γ M pc lo st n G bc bs Q := by
  intro p e s m args below meth c R A Qc mc ms X ls H locs cells slots Y
  have hrest := Nat.le_of_ble_eq_true hrest0
  have hcat : ∀ v ∈ As, v.category = 1 := fun v h => by simpa using List.all_eq_true.mp hcat0 v h
  obtain ⟨hl, hm, hv, hh, ⟨r, hc0, hrc⟩, hlen⟩ := hk
  subst hlo
  obtain ⟨m1, m2, m3, m4, m5, m6, m7⟩ := hm
  have hM := pV.met (vs := .ref b :: As) m3 (fun v h => (List.mem_cons.mp h).elim (fun e => by rw [e]; rfl) (hcat v)) hlen kk
  have x8 := X.2.2.2.2.2.2.2.1
  have hts : ∀ w ∈ pmWs, w.before args s = true := fun w h => x8.1 w h args
  have hpre := pm_pre (.ref b :: As) X Y
  have hrecv : ∃ cellB : Cell, H[b]? = some cellB ∧ cellB.vm.isStatics = false ∧ s.vm.findClass M'.1.cls = some cellB.cls := by
    rw [← hrc]
    exact va_recv (pm_vk x8) (pm_one Y.2.2.1 hG) hc0 (q0 := 0) rfl
  refine V_run (a := (Value.ref b :: As).toArray) (bc1 := bc1) (bs1 := bs1) (rest := rest) X Y hbc hbs ?_
  obtain ⟨x1, x2, x3, x4, x5, x6, x7, -, x9, ⟨r1, r2, r3, r4⟩, x11, x12⟩ := X
  obtain ⟨y1, y2, y3, y4, y5, y6, y7⟩ := Y
  have hlen' : ∀ sig, parseMethodDescriptor M'.1.desc = some sig → As.length = sig.parameters.length := fun sig h => by
    rw [h] at m6
    exact (Option.some.inj m6).symm
  have hfr : (pmRm M' bc1 bs1).frames + 1 ≤ R.frames := by show M'.2.2.2.2 + 1 ≤ _; omega
  have hlc : 8 + (M'.2.2.1 + 11) + (pmRm M' bc1 bs1).locals ≤ R.locals := by show _ + 40 * M'.2.2.2.2 ≤ _; omega
  rcases hl with hl | ⟨host, hl⟩
  · exact va_runV (C := M'.1.cls) (As := As) (nL := M.2.2.1) ⟨x1, x2, x3, x7, hts⟩ hM ⟨⟨rfl, rfl, hfr, hlc, pm_words x8 m1, List.mem_cons_self, hts _ m1, hts _ m2, ⟨m4, m5⟩, hlen', hts _ hl⟩, hts _ hv.1, hts _ hv.2⟩ ⟨pmPc.blind, hrecv, hpre⟩ rfl rfl (y1.size) hst (lv_room hrest) hd ⟨by omega, by omega⟩
  · exact va_runVN (C := M'.1.cls) (As := As) (nL := M.2.2.1) ⟨x1, x2, x3, x7, hts⟩ hM ⟨⟨⟨rfl, rfl, hfr, hlc, pm_words x8 m1, List.mem_cons_self⟩, hts _ m1, hts _ m2, ⟨m4, m5⟩, hlen', hts _ hl⟩, hts _ hv.1, hts _ hv.2⟩ ⟨pmPc.blind, hrecv, hpre⟩ rfl rfl (y1.size) hst (lv_room hrest) hd ⟨by omega, by omega⟩
theorem V_callS {idx bc1 bs1 bc' bs' : Nat} {As rest : List Value} {lo' : pmLo} (hd : decode M.2.1 pc = .ok (.invokestatic idx, 3)) (hk : okCS M idx M' As.length)
    (hst : st = As.reverse ++ rest) (hrest0 : Nat.ble (rest.map fun v => v.category).sum 8 = true) (hcat0 : As.all (fun v => v.category == 1) = true) (hlo : lo' = pmIn As M'.2.2.1) (hbc : bc = bc1 + bc') (hbs : bs = bs1 + bs')
    (kk : pV Γ M' 0 lo' [] n G bc1 bs1 (fun r n' G' => pV Γ M (pc + 3) lo (pmPush r rest) n' G' bc' bs' Q)) : pV Γ M pc lo st n G bc bs Q := by
  intro p e s m args below meth c R A Qc mc ms X ls H locs cells slots Y
  have hrest := Nat.le_of_ble_eq_true hrest0
  have hcat : ∀ v ∈ As, v.category = 1 := fun v h => by simpa using List.all_eq_true.mp hcat0 v h
  obtain ⟨hl, hm, hv, hh, hlen⟩ := hk
  subst hlo
  obtain ⟨m1, m2, m3, m4, m5, m6, m7⟩ := hm
  have hM := pV.met (vs := As) m3 hcat hlen kk
  have x8 := X.2.2.2.2.2.2.2.1
  have hts : ∀ w ∈ pmWs, w.before args s = true := fun w h => x8.1 w h args
  have hpre := pm_pre As X Y
  refine V_run (a := As.toArray) (bc1 := bc1) (bs1 := bs1) (rest := rest) X Y hbc hbs ?_
  obtain ⟨x1, x2, x3, x4, x5, x6, x7, -, x9, ⟨r1, r2, r3, r4⟩, x11, x12⟩ := X
  obtain ⟨y1, y2, y3, y4, y5, y6, y7⟩ := Y
  have hlen' : ∀ sig, parseMethodDescriptor M'.1.desc = some sig → As.length = sig.parameters.length := fun sig h => by
    rw [h] at m6
    exact (Option.some.inj m6).symm
  have hfr : (pmRm M' bc1 bs1).frames + 1 ≤ R.frames := by show M'.2.2.2.2 + 1 ≤ _; omega
  have hlc : 8 + (M'.2.2.1 + 11) + (pmRm M' bc1 bs1).locals ≤ R.locals := by show _ + 40 * M'.2.2.2.2 ≤ _; omega
  rcases hl with hl | ⟨host, hl⟩
  · exact va_runS (As := As) (nL := M.2.2.1) ⟨x1, x2, x3, x7, hts⟩ hM ⟨⟨rfl, rfl, hfr, hlc, pm_words x8 m1, List.mem_cons_self, hts _ m1, hts _ m2, ⟨m4, m5⟩, hlen', hts _ hl⟩, hts _ hv⟩ ⟨pmPc.blind, hpre⟩ rfl rfl (y1.size) hst (lv_room hrest) hd ⟨by omega, by omega⟩
  · exact va_runSN (As := As) (nL := M.2.2.1) ⟨x1, x2, x3, x7, hts⟩ hM ⟨⟨⟨rfl, rfl, hfr, hlc, pm_words x8 m1, List.mem_cons_self⟩, hts _ m1, hts _ m2, ⟨m4, m5⟩, hlen', hts _ hl⟩, hts _ hv, trivial⟩ ⟨pmPc.blind, hpre⟩ rfl rfl (y1.size) hst (lv_room hrest) hd ⟨by omega, by omega⟩
theorem V_callI {idx b bc1 bs1 bc' bs' : Nat} {As rest : List Value} {lo' : pmLo} (hd : decode M.2.1 pc = .ok (.invokespecial idx, 3)) (hk : okCI M idx M' As.length)
    (hst : st = As.reverse ++ .ref b :: rest) (hrest0 : Nat.ble (rest.map fun v => v.category).sum 8 = true) (hcat0 : As.all (fun v => v.category == 1) = true) (hlo : lo' = pmIn (.ref b :: As) M'.2.2.1) (hbc : bc = bc1 + bc') (hbs : bs = bs1 + bs')
    (kk : pV Γ M' 0 lo' [] n G bc1 bs1 (fun r n' G' => pV Γ M (pc + 3) lo (pmPush r rest) n' G' bc' bs' Q)) : pV Γ M pc lo st n G bc bs Q := by
  intro p e s m args below meth c R A Qc mc ms X ls H locs cells slots Y
  have hrest := Nat.le_of_ble_eq_true hrest0
  have hcat : ∀ v ∈ As, v.category = 1 := fun v h => by simpa using List.all_eq_true.mp hcat0 v h
  obtain ⟨hl, hm, ⟨hv, hi, hnone⟩, hh, hlen⟩ := hk
  subst hlo
  obtain ⟨m1, m2, m3, m4, m5, m6, m7⟩ := hm
  have hM := pV.met (vs := .ref b :: As) m3 (fun v h => (List.mem_cons.mp h).elim (fun e => by rw [e]; rfl) (hcat v)) hlen kk
  have x8 := X.2.2.2.2.2.2.2.1
  have hts : ∀ w ∈ pmWs, w.before args s = true := fun w h => x8.1 w h args
  have hpre := pm_pre (.ref b :: As) X Y
  refine V_run (a := (Value.ref b :: As).toArray) (bc1 := bc1) (bs1 := bs1) (rest := rest) X Y hbc hbs ?_
  obtain ⟨x1, x2, x3, x4, x5, x6, x7, -, x9, ⟨r1, r2, r3, r4⟩, x11, x12⟩ := X
  obtain ⟨y1, y2, y3, y4, y5, y6, y7⟩ := Y
  have hlen' : ∀ sig, parseMethodDescriptor M'.1.desc = some sig → As.length = sig.parameters.length := fun sig h => by
    rw [h] at m6
    exact (Option.some.inj m6).symm
  have hfr : (pmRm M' bc1 bs1).frames + 1 ≤ R.frames := by show M'.2.2.2.2 + 1 ≤ _; omega
  have hlc : 8 + (M'.2.2.1 + 11) + (pmRm M' bc1 bs1).locals ≤ R.locals := by show _ + 40 * M'.2.2.2.2 ≤ _; omega
  have hws := pm_words x8 m1
  have hmem : Jvm.Cond.code M'.1 M'.2.1 M'.2.2.1 none ∈ [Jvm.Cond.code M'.1 M'.2.1 M'.2.2.1 M'.2.2.2.1] := by rw [hnone]; exact List.mem_cons_self
  have hcode : (Jvm.Cond.code M'.1 M'.2.1 M'.2.2.1 none).before args s = true := by rw [← hnone]; exact hts _ m1
  rcases hl with hl | ⟨host, hl⟩
  · exact va_runI (As := As) (nL := M.2.2.1) ⟨x1, x2, x3, x7, hts⟩ hM ⟨⟨rfl, rfl, hfr, hlc, hws, hmem, hcode, hts _ m2, ⟨m4, m5⟩, hlen', hts _ hl⟩, hi, hts _ hv⟩ ⟨pmPc.blind, hpre⟩ rfl rfl (y1.size) hst (lv_room hrest) hd ⟨by omega, by omega⟩
  · exact va_runIN (As := As) (nL := M.2.2.1) ⟨x1, x2, x3, x7, hts⟩ hM ⟨⟨⟨rfl, rfl, hfr, hlc, hws, hmem⟩, hcode, hts _ m2, ⟨m4, m5⟩, hlen', hts _ hl⟩, hi, hts _ hv⟩ ⟨pmPc.blind, hpre⟩ rfl rfl (y1.size) hst (lv_room hrest) hd ⟨by omega, by omega⟩
theorem V_objInit {idx a : Nat} (hd : decode M.2.1 pc = .ok (.invokespecial idx, 3)) (hl : Jvm.Cond.methodLink M.1.cls idx Lib.objectInit ∈ pmWs) (hi : Jvm.Cond.instanceMethod Lib.objectInit ∈ pmWs) (hc : Jvm.Cond.code Lib.objectInit ⟨#[0xb1]⟩ 1 none ∈ pmWs) (hh : 1 ≤ M.2.2.2.2) (hrest0 : Nat.ble (st.map fun v => v.category).sum 8 = true) (kk : pV Γ M (pc + 3) lo st n G bc bs Q) : pV Γ M pc lo (.ref a :: st) n G bc bs Q := by
  have hrest := Nat.le_of_ble_eq_true hrest0
  intro p e s m args below meth c R A Qc mc ms X ls H locs cells slots Y
  have hW := kk p e s m args below meth c R A Qc mc ms X ls H locs cells slots Y
  obtain ⟨x1, x2, x3, x4, x5, x6, x7, x8, x9, ⟨r1, r2, r3, r4⟩, x11, x12⟩ := X
  have hts : ∀ w ∈ pmWs, w.before args s = true := fun w h => x8.1 w h args
  have hroom := lv_room (m := m) (pc := pc) (ls := ls) (rest := Value.ref a :: st) hrest
  exact W.objInit x1 x2 x7 (hts _ hl) (hts _ hi) (hts _ hc) rfl (by rw [x3]; exact Y.1.size) rfl hd (by omega) (by omega) hW
theorem V_copyi {idx a b N N' d k : Nat} {f g : Nat → Int32} {xs xd xn : Int32} (hd : decode M.2.1 pc = .ok (.invokestatic idx, 3)) (hl : Jvm.Cond.methodLink M.1.cls idx arraycopyName ∈ pmWs) (hnat : Jvm.Cond.native arraycopyName ∈ pmWs) (hstat : Jvm.Cond.static arraycopyName ∈ pmWs) (hini : Jvm.Cond.initialized "java/lang/System" ∈ pmWs) (hty : pmTy 0 = some .int) (hh : 1 ≤ M.2.2.2.2) (hrest0 : Nat.ble (st.map fun v => v.category).sum 8 = true)
    (hA0 : G a = some (.inl (0, N, .inl f))) (hA1 : G b = some (.inl (0, N', .inl g))) (hs : xs = nI d) (hdd : xd = nI 0) (hn : xn = nI k) (h4 : d + k ≤ N) (h5 : k ≤ N') (hN : N < 2 ^ 31) (hN' : N' < 2 ^ 31)
    (kk : ∀ G' : pmG, G' b = some (.inl (0, N', .inl (va_cpy f g d 0 k))) → (∀ q, q ≠ b → G' q = G q) → pV Γ M (pc + 3) lo st n G' bc bs Q) : pV Γ M pc lo (.int xn :: .int xd :: .ref b :: .int xs :: .ref a :: st) n G bc bs Q := by
  have hrest := Nat.le_of_ble_eq_true hrest0
  intro p e s m args below meth c R A Qc mc ms X ls H locs cells slots Y
  have hW := kk _ (pmSet_self _ _ _) (fun q h => pmSet_ne _ _ h) p e s m args below meth c R A Qc mc ms X
  obtain ⟨x1, x2, x3, x4, x5, x6, x7, x8, x9, ⟨r1, r2, r3, r4⟩, x11, x12⟩ := X
  obtain ⟨y1, y2, y3, y4, y5, y6, y7⟩ := Y
  subst hs; subst hdd; subst hn
  have hts : ∀ w ∈ pmWs, w.before args s = true := fun w h => x8.1 w h args
  have e_d : (nI d).toNatClampNeg = d := nI_clamp (by omega)
  have e_0 : (nI 0).toNatClampNeg = 0 := nI_clamp (by omega)
  have e_k : (nI k).toNatClampNeg = k := nI_clamp (by omega)
  have hroom := lv_room (m := m) (pc := pc) (ls := ls) (rest := st) hrest
  have hArr := (x8.2.2 0 _ hty).1
  have hc0 : H[a]? = some (vp_cell (Γ.2.2.1 0) (N, .inl f)) := y3 a _ hA0
  have hc1 : H[b]? = some (vp_cell (Γ.2.2.1 0) (N', .inl g)) := y3 b _ hA1
  intro T hT X0
  obtain ⟨-, k0, hk0, cm0, hkk0⟩ := hArr N (fun j => .int (f j))
  obtain ⟨-, k1, hk1, cm1, hkk1⟩ := hArr N' (fun j => .int (g j))
  obtain ⟨vm', X', step⟩ := X0.arraycopy x1 x7 (hts _ hl) (hts _ hnat) (hts _ hstat) (hts _ hini) (src := a) (dst := b) (cs := vp_cell (Γ.2.2.1 0) (N, .inl f)) (cd := vp_cell (Γ.2.2.1 0) (N', .inl g)) (srcPos := nI d) (destPos := nI 0) (n := nI k) (by rw [hT]; exact hc0) (by rw [hT]; exact hc1)
    (fun _ h => by cases h) (fun _ h => by cases h) (fun h => by cases h) (fun h => by cases h) hk0 hk1 hkk0 hkk1 (by simp [refKind]) (nI_pos (by omega)) (nI_pos (by omega)) (nI_pos (by omega))
    (by rw [nI_toInt (by omega), nI_toInt (by omega)]; show ¬ _ > ((arrV _ N (fun j => .int (f j))).slots.size : Int); rw [arrV_size]; omega)
    (by rw [nI_toInt (by omega), nI_toInt (by omega)]; show ¬ _ > ((arrV _ N' (fun j => .int (g j))).slots.size : Int); rw [arrV_size]; omega)
    (fun vm₁ _ i hi => by
      rw [e_k] at hi
      have e : (vp_cell (Γ.2.2.1 0) (N, .inl f)).slots.getD ((nI d).toNatClampNeg + i) .null = .int (f (d + i)) := by
        show (arrV _ N (fun j => .int (f j))).slots.getD _ _ = _
        rw [e_d, Array.getD_eq_getD_getElem?, arrV_read _ _ (by omega)]
        rfl
      refine ⟨?_, ?_⟩
      · rw [e]; rfl
      · rw [e]; exact trivial)
    (g := F0 m pc ls (.int (nI k) :: .int (nI 0) :: .ref b :: .int (nI d) :: .ref a :: st)) rfl (by rw [x3]; exact y1.size) (rest := st) rfl (by rw [x2]; exact hd) (by omega) (by show 2 * 0 + _ + _ ≤ _; have : nativeFrameWords "java/lang/System" "arraycopy" 5 + 11 ≤ 32 := (by decide +kernel); omega)
  have e1 : copied (vp_cell (Γ.2.2.1 0) (N, .inl f)) (vp_cell (Γ.2.2.1 0) (N', .inl g)) (nI d) (nI 0) (nI k) = vp_cell (Γ.2.2.1 0) (N', .inl (va_cpy f g (nI d).toNatClampNeg (nI 0).toNatClampNeg (nI k).toNatClampNeg)) :=
    va_copied (fun z => Value.int z) (Γ.2.2.1 0) (Γ.2.2.1 0) f g (by rw [e_d, e_k]; exact h4)
  rw [e_d, e_0, e_k] at e1
  rw [e1] at X' step
  have hl : b < H.size := (Array.getElem?_eq_some_iff.mp hc1).1
  generalize hcell : vp_cell (Γ.2.2.1 0) (N', .inl (va_cpy f g d 0 k)) = cellN at X' step
  have hheap : ((T.setVm vm').setCell b cellN).heap = H.setIfInBounds b cellN := by rw [← hT]; rfl
  have oq : ∀ q : Nat, q ≠ b → (H.setIfInBounds b cellN)[q]? = H[q]? := fun q hq => by simp [Array.getElem?_setIfInBounds, Ne.symm hq]
  have hAb := y4 b _ hA1
  obtain ⟨t, a1, b1⟩ := hW ls (H.setIfInBounds b cellN) _ cells slots ⟨y1, by simp; exact y2, y3.set (show (H.setIfInBounds b cellN)[b]? = some (vp_cell _ _) by rw [← hcell]; simp [Array.getElem?_setIfInBounds, hl]) oq, pmSet_dom y4 hAb, ⟨by simp; exact y5.1, fun q g1 g2 => by
      rw [oq q (fun e => g2 (by rw [e]; exact hAb))]
      exact y5.2.1 q g1 g2, fun q hq => by
      rcases List.mem_append.mp hq with h | h
      · exact y5.2.2 q h
      · obtain ⟨z, -, hz⟩ := List.mem_map.mp h
        rw [← hz]
        exact hAb⟩, y6, y7⟩ _ hheap X'
  exact ⟨t, step t a1, b1⟩
end VCALLS
end
section
/-! V's rows over numbers that are nI of a natural number. -/
noncomputable def pB (p : Prop) : Int32 := @ite _ p (Classical.propDecidable p) (nI 1) (nI 0)
theorem pB_t {p : Prop} (h : p) : pB p = nI 1 := if_pos h
theorem pB_f {p : Prop} (h : ¬ p) : pB p = nI 0 := if_neg h
theorem pB_c {p q : Prop} (h : p ↔ q) : pB p = pB q := by rw [propext h]
theorem pB_or (p : Prop) : pB p = nI 0 ∨ pB p = nI 1 := by
  by_cases h : p
  · exact Or.inr (pB_t h)
  · exact Or.inl (pB_f h)
theorem pB_nar (p : Prop) : narrow .boolean (.int (pB p)) = .int (pB p) := by rcases pB_or p with h | h <;> rw [h] <;> rfl
theorem pB_fit (p : Prop) : fits .boolean (.int (pB p)) = true := by rcases pB_or p with h | h <;> rw [h] <;> rfl
section VNAT
variable {Γ : pmE} {M : pmM} {pc : Nat} {lo : pmLo} {st : List Value} {n : Nat} {G : pmG} {bc bs : Nat} {Q : pmPost} {a b : Nat}
theorem V_iaddN (hd : decode M.2.1 pc = .ok (.iadd, 1)) (k : pV Γ M (pc + 1) lo (.int (nI (a + b)) :: st) n G bc bs Q) : pV Γ M pc lo (.int (nI b) :: .int (nI a) :: st) n G bc bs Q := V_iadd hd (by rw [nI_add]; exact k)
theorem V_imulN (hd : decode M.2.1 pc = .ok (.imul, 1)) (k : pV Γ M (pc + 1) lo (.int (nI (a * b)) :: st) n G bc bs Q) : pV Γ M pc lo (.int (nI b) :: .int (nI a) :: st) n G bc bs Q := V_imul hd (by rw [pk_mul]; exact k)
theorem V_isubN (hd : decode M.2.1 pc = .ok (.isub, 1)) (h : b ≤ a) (k : pV Γ M (pc + 1) lo (.int (nI (a - b)) :: st) n G bc bs Q) : pV Γ M pc lo (.int (nI b) :: .int (nI a) :: st) n G bc bs Q := V_isub hd (by rw [pk_sub h]; exact k)
theorem V_iincN {i : Nat} (hd : decode M.2.1 pc = .ok (.iinc i 1, 3)) (hl : lo[i]? = some (some (.int (nI a)))) (k : pV Γ M (pc + 3) (lo.set i (some (.int (nI (a + 1))))) st n G bc bs Q) : pV Γ M pc lo st n G bc bs Q := V_iinc hd hl (by show nI a + 1 = _; exact nI_1 a) k
theorem V_icmp_ltN {off : Int} {tgt : Nat} (hd : decode M.2.1 pc = .ok (.if_icmp .lt off, 3)) (ht : (pc : Int) + off = (tgt : Int)) (ha : a < 2 ^ 31) (hb : b < 2 ^ 31) (kt : a < b → pV Γ M tgt lo st n G bc bs Q) (kf : b ≤ a → pV Γ M (pc + 3) lo st n G bc bs Q) : pV Γ M pc lo (.int (nI b) :: .int (nI a) :: st) n G bc bs Q :=
  V_icmp_lt hd ht (fun h => kt ((nI_ltI ha hb).mp h)) (fun h => kf (Nat.not_lt.mp fun q => h ((nI_ltI ha hb).mpr q)))
theorem V_icmp_geN {off : Int} {tgt : Nat} (hd : decode M.2.1 pc = .ok (.if_icmp .ge off, 3)) (ht : (pc : Int) + off = (tgt : Int)) (ha : a < 2 ^ 31) (hb : b < 2 ^ 31) (kt : b ≤ a → pV Γ M tgt lo st n G bc bs Q) (kf : a < b → pV Γ M (pc + 3) lo st n G bc bs Q) : pV Γ M pc lo (.int (nI b) :: .int (nI a) :: st) n G bc bs Q :=
  V_icmp_ge hd ht (fun h => kt ((nI_leI hb ha).mp h)) (fun h => kf (Nat.not_le.mp fun q => h ((nI_leI hb ha).mpr q)))
theorem V_icmp_gtN {off : Int} {tgt : Nat} (hd : decode M.2.1 pc = .ok (.if_icmp .gt off, 3)) (ht : (pc : Int) + off = (tgt : Int)) (ha : a < 2 ^ 31) (hb : b < 2 ^ 31) (kt : b < a → pV Γ M tgt lo st n G bc bs Q) (kf : a ≤ b → pV Γ M (pc + 3) lo st n G bc bs Q) : pV Γ M pc lo (.int (nI b) :: .int (nI a) :: st) n G bc bs Q :=
  V_icmp_gt hd ht (fun h => kt ((nI_ltI hb ha).mp h)) (fun h => kf (Nat.not_lt.mp fun q => h ((nI_ltI hb ha).mpr q)))
theorem V_icmp_leN {off : Int} {tgt : Nat} (hd : decode M.2.1 pc = .ok (.if_icmp .le off, 3)) (ht : (pc : Int) + off = (tgt : Int)) (ha : a < 2 ^ 31) (hb : b < 2 ^ 31) (kt : a ≤ b → pV Γ M tgt lo st n G bc bs Q) (kf : b < a → pV Γ M (pc + 3) lo st n G bc bs Q) : pV Γ M pc lo (.int (nI b) :: .int (nI a) :: st) n G bc bs Q :=
  V_icmp_le hd ht (fun h => kt ((nI_leI ha hb).mp h)) (fun h => kf (Nat.not_le.mp fun q => h ((nI_leI ha hb).mpr q)))
theorem V_icmp_eqN {off : Int} {tgt : Nat} (hd : decode M.2.1 pc = .ok (.if_icmp .eq off, 3)) (ht : (pc : Int) + off = (tgt : Int)) (ha : a < 2 ^ 31) (hb : b < 2 ^ 31) (kt : a = b → pV Γ M tgt lo st n G bc bs Q) (kf : a ≠ b → pV Γ M (pc + 3) lo st n G bc bs Q) : pV Γ M pc lo (.int (nI b) :: .int (nI a) :: st) n G bc bs Q :=
  V_icmp_eq hd ht (fun h => kt ((nI_eq ha hb).mp h)) (fun h => kf (fun q => h ((nI_eq ha hb).mpr q)))
theorem V_icmp_neN {off : Int} {tgt : Nat} (hd : decode M.2.1 pc = .ok (.if_icmp .ne off, 3)) (ht : (pc : Int) + off = (tgt : Int)) (ha : a < 2 ^ 31) (hb : b < 2 ^ 31) (kt : a ≠ b → pV Γ M tgt lo st n G bc bs Q) (kf : a = b → pV Γ M (pc + 3) lo st n G bc bs Q) : pV Γ M pc lo (.int (nI b) :: .int (nI a) :: st) n G bc bs Q :=
  V_icmp_ne hd ht (fun h => kt (fun q => h ((nI_eq ha hb).mpr q))) (fun h => kf ((nI_eq ha hb).mp h))
theorem V_if_eqN {off : Int} {tgt : Nat} (hd : decode M.2.1 pc = .ok (.ifCond .eq off, 3)) (ht : (pc : Int) + off = (tgt : Int)) (ha : a < 2 ^ 31) (kt : a = 0 → pV Γ M tgt lo st n G bc bs Q) (kf : a ≠ 0 → pV Γ M (pc + 3) lo st n G bc bs Q) : pV Γ M pc lo (.int (nI a) :: st) n G bc bs Q :=
  V_if_eq hd ht (fun h => kt (by rw [← nI_0] at h; exact (nI_eq ha (by omega)).mp h)) (fun h => kf (fun q => h (by rw [q]; exact nI_0)))
theorem V_if_neN {off : Int} {tgt : Nat} (hd : decode M.2.1 pc = .ok (.ifCond .ne off, 3)) (ht : (pc : Int) + off = (tgt : Int)) (ha : a < 2 ^ 31) (kt : a ≠ 0 → pV Γ M tgt lo st n G bc bs Q) (kf : a = 0 → pV Γ M (pc + 3) lo st n G bc bs Q) : pV Γ M pc lo (.int (nI a) :: st) n G bc bs Q :=
  V_if_ne hd ht (fun h => kt (fun q => h (by rw [q]; exact nI_0))) (fun h => kf (by rw [← nI_0] at h; exact (nI_eq ha (by omega)).mp h))
theorem V_if_ltN {off : Int} {tgt : Nat} (hd : decode M.2.1 pc = .ok (.ifCond .lt off, 3)) (ht : (pc : Int) + off = (tgt : Int)) (ha : a < 2 ^ 31) (kf : pV Γ M (pc + 3) lo st n G bc bs Q) : pV Γ M pc lo (.int (nI a) :: st) n G bc bs Q :=
  V_if_lt hd ht (fun h => absurd h (nI_pos ha)) (fun _ => kf)
theorem V_if_leN {off : Int} {tgt : Nat} (hd : decode M.2.1 pc = .ok (.ifCond .le off, 3)) (ht : (pc : Int) + off = (tgt : Int)) (ha : a < 2 ^ 31) (kt : a = 0 → pV Γ M tgt lo st n G bc bs Q) (kf : 0 < a → pV Γ M (pc + 3) lo st n G bc bs Q) : pV Γ M pc lo (.int (nI a) :: st) n G bc bs Q :=
  V_if_le hd ht (fun h => kt (by rw [← nI_0] at h; have := (nI_leI ha (by omega)).mp h; omega)) (fun h => kf (by
    rw [← nI_0] at h
    rcases Nat.eq_zero_or_pos a with q | q
    · exact absurd (by rw [q]; exact (nI_leI (by omega) (by omega)).mpr (Nat.le_refl _)) h
    · exact q))
-- a truth value decides
theorem V_if_eqB {p : Prop} {off : Int} {tgt : Nat} (hd : decode M.2.1 pc = .ok (.ifCond .eq off, 3)) (ht : (pc : Int) + off = (tgt : Int)) (kt : ¬ p → pV Γ M tgt lo st n G bc bs Q) (kf : p → pV Γ M (pc + 3) lo st n G bc bs Q) : pV Γ M pc lo (.int (pB p) :: st) n G bc bs Q := by
  by_cases h : p
  · rw [pB_t h]
    exact V_if_eqN hd ht (by omega) (fun q => absurd q (by omega)) (fun _ => kf h)
  · rw [pB_f h]
    exact V_if_eqN hd ht (by omega) (fun _ => kt h) (fun q => absurd rfl q)
theorem V_if_neB {p : Prop} {off : Int} {tgt : Nat} (hd : decode M.2.1 pc = .ok (.ifCond .ne off, 3)) (ht : (pc : Int) + off = (tgt : Int)) (kt : p → pV Γ M tgt lo st n G bc bs Q) (kf : ¬ p → pV Γ M (pc + 3) lo st n G bc bs Q) : pV Γ M pc lo (.int (pB p) :: st) n G bc bs Q := by
  by_cases h : p
  · rw [pB_t h]
    exact V_if_neN hd ht (by omega) (fun _ => kt h) (fun q => absurd q (by omega))
  · rw [pB_f h]
    exact V_if_neN hd ht (by omega) (fun q => absurd rfl q) (fun _ => kf h)
end VNAT
end
section
/-! Facts of fields, new objects, calls, each by its place in the pool. -/
theorem in_HE : ∀ w ∈ u_ws "HotEditions" T_HE 8, w ∈ pmWs := by
  intro w hw
  obtain ⟨k, hk, rfl⟩ := List.mem_map.mp hw
  have hk := List.mem_range.mp hk
  match k, hk with
  | 0, _ => exact w_240
  | 1, _ => exact w_242
  | 2, _ => exact w_244
  | 3, _ => exact w_246
  | 4, _ => exact w_248
  | 5, _ => exact w_250
  | 6, _ => exact w_252
  | 7, _ => exact w_254
  | k + 8, h => exact absurd h (by omega)
theorem in_Mo : ∀ w ∈ u_ws "HotEditionsModel" T_Mo 19, w ∈ pmWs := by
  intro w hw
  obtain ⟨k, hk, rfl⟩ := List.mem_map.mp hw
  have hk := List.mem_range.mp hk
  match k, hk with
  | 0, _ => exact w_613
  | 1, _ => exact w_615
  | 2, _ => exact w_617
  | 3, _ => exact w_619
  | 4, _ => exact w_621
  | 5, _ => exact w_623
  | 6, _ => exact w_625
  | 7, _ => exact w_627
  | 8, _ => exact w_629
  | 9, _ => exact w_631
  | 10, _ => exact w_633
  | 11, _ => exact w_635
  | 12, _ => exact w_637
  | 13, _ => exact w_639
  | 14, _ => exact w_641
  | 15, _ => exact w_643
  | 16, _ => exact w_645
  | 17, _ => exact w_647
  | 18, _ => exact w_649
  | k + 19, h => exact absurd h (by omega)
theorem in_Cl : ∀ w ∈ u_ws "HotEditions$Calls" T_Cl 3, w ∈ pmWs := by
  intro w hw
  obtain ⟨k, hk, rfl⟩ := List.mem_map.mp hw
  have hk := List.mem_range.mp hk
  match k, hk with
  | 0, _ => exact w_225
  | 1, _ => exact w_227
  | 2, _ => exact w_229
  | k + 3, h => exact absurd h (by omega)
theorem in_Ch : ∀ w ∈ u_ws "HotEditions$Chain" T_Ch 1, w ∈ pmWs := by
  intro w hw
  obtain ⟨k, hk, rfl⟩ := List.mem_map.mp hw
  have hk := List.mem_range.mp hk
  match k, hk with
  | 0, _ => exact w_152
  | k + 1, h => exact absurd h (by omega)
theorem in_Cd : ∀ w ∈ u_ws "HotEditions$Code" T_Cd 2, w ∈ pmWs := by
  intro w hw
  obtain ⟨k, hk, rfl⟩ := List.mem_map.mp hw
  have hk := List.mem_range.mp hk
  match k, hk with
  | 0, _ => exact w_46
  | 1, _ => exact w_48
  | k + 2, h => exact absurd h (by omega)
theorem in_Df : ∀ w ∈ u_ws "HotEditions$Definition" T_Df 7, w ∈ pmWs := by
  intro w hw
  obtain ⟨k, hk, rfl⟩ := List.mem_map.mp hw
  have hk := List.mem_range.mp hk
  match k, hk with
  | 0, _ => exact w_90
  | 1, _ => exact w_92
  | 2, _ => exact w_94
  | 3, _ => exact w_96
  | 4, _ => exact w_98
  | 5, _ => exact w_100
  | 6, _ => exact w_102
  | k + 7, h => exact absurd h (by omega)
theorem in_Fr : ∀ w ∈ u_ws "HotEditions$Frame" T_Fr 5, w ∈ pmWs := by
  intro w hw
  obtain ⟨k, hk, rfl⟩ := List.mem_map.mp hw
  have hk := List.mem_range.mp hk
  match k, hk with
  | 0, _ => exact w_208
  | 1, _ => exact w_210
  | 2, _ => exact w_212
  | 3, _ => exact w_214
  | 4, _ => exact w_216
  | k + 5, h => exact absurd h (by omega)
theorem in_Lc : ∀ w ∈ u_ws "HotEditions$LoadedClass" T_Lc 3, w ∈ pmWs := by
  intro w hw
  obtain ⟨k, hk, rfl⟩ := List.mem_map.mp hw
  have hk := List.mem_range.mp hk
  match k, hk with
  | 0, _ => exact w_439
  | 1, _ => exact w_441
  | 2, _ => exact w_443
  | k + 3, h => exact absurd h (by omega)
theorem in_Mt : ∀ w ∈ u_ws "HotEditions$Method" T_Mt 3, w ∈ pmWs := by
  intro w hw
  obtain ⟨k, hk, rfl⟩ := List.mem_map.mp hw
  have hk := List.mem_range.mp hk
  match k, hk with
  | 0, _ => exact w_63
  | 1, _ => exact w_65
  | 2, _ => exact w_67
  | k + 3, h => exact absurd h (by omega)
theorem in_Sh : ∀ w ∈ u_ws "HotEditions$Shelf" T_Sh 1, w ∈ pmWs := by
  intro w hw
  obtain ⟨k, hk, rfl⟩ := List.mem_map.mp hw
  have hk := List.mem_range.mp hk
  match k, hk with
  | 0, _ => exact w_114
  | k + 1, h => exact absurd h (by omega)
theorem in_Tf : ∀ w ∈ u_ws "HotEditions$Transformer" T_Tf 5, w ∈ pmWs := by
  intro w hw
  obtain ⟨k, hk, rfl⟩ := List.mem_map.mp hw
  have hk := List.mem_range.mp hk
  match k, hk with
  | 0, _ => exact w_140
  | 1, _ => exact w_142
  | 2, _ => exact w_144
  | 3, _ => exact w_146
  | 4, _ => exact w_148
  | k + 5, h => exact absurd h (by omega)
theorem in_Tr : ∀ w ∈ u_ws "HotEditions$Trial" T_Tr 3, w ∈ pmWs := by
  intro w hw
  obtain ⟨k, hk, rfl⟩ := List.mem_map.mp hw
  have hk := List.mem_range.mp hk
  match k, hk with
  | 0, _ => exact w_175
  | 1, _ => exact w_177
  | 2, _ => exact w_179
  | k + 3, h => exact absurd h (by omega)
theorem f_HE_10 : okF "HotEditions" 10 kHE 0 := ⟨"HotEditions", T_HE, 8, rfl, by decide, rfl, in_HE, Or.inl w_232⟩
theorem p_HE_10 : okPF "HotEditions" 10 kHE 0 (.object "HotEditions$Definition") := ⟨"HotEditions", T_HE, 8, t_HE, rfl, by decide, rfl, rfl, in_HE, w_232, ty_HE, nm_HE, rfl, rfl⟩
theorem f_HE_16 : okF "HotEditions" 16 kHE 1 := ⟨"HotEditions", T_HE, 8, rfl, by decide, rfl, in_HE, Or.inl w_233⟩
theorem p_HE_16 : okP kHE 1 false .int := ⟨"HotEditions", T_HE, 8, t_HE, rfl, by decide, ty_HE, nm_HE, rfl, rfl⟩
theorem f_HE_23 : okF "HotEditions" 23 kHE 2 := ⟨"HotEditions", T_HE, 8, rfl, by decide, rfl, in_HE, Or.inl w_234⟩
theorem p_HE_23 : okPF "HotEditions" 23 kHE 2 (.object "HotEditions$Shelf") := ⟨"HotEditions", T_HE, 8, t_HE, rfl, by decide, rfl, rfl, in_HE, w_234, ty_HE, nm_HE, rfl, rfl⟩
theorem f_HE_30 : okF "HotEditions" 30 kHE 3 := ⟨"HotEditions", T_HE, 8, rfl, by decide, rfl, in_HE, Or.inl w_235⟩
theorem p_HE_30 : okPF "HotEditions" 30 kHE 3 (.object "HotEditions$Chain") := ⟨"HotEditions", T_HE, 8, t_HE, rfl, by decide, rfl, rfl, in_HE, w_235, ty_HE, nm_HE, rfl, rfl⟩
theorem f_HE_36 : okF "HotEditions" 36 kHE 4 := ⟨"HotEditions", T_HE, 8, rfl, by decide, rfl, in_HE, Or.inl w_236⟩
theorem p_HE_36 : okPF "HotEditions" 36 kHE 4 (.array (.object "HotEditions$Trial")) := ⟨"HotEditions", T_HE, 8, t_HE, rfl, by decide, rfl, rfl, in_HE, w_236, ty_HE, nm_HE, rfl, rfl⟩
theorem f_HE_40 : okF "HotEditions" 40 kHE 5 := ⟨"HotEditions", T_HE, 8, rfl, by decide, rfl, in_HE, Or.inl w_237⟩
theorem p_HE_40 : okP kHE 5 false .int := ⟨"HotEditions", T_HE, 8, t_HE, rfl, by decide, ty_HE, nm_HE, rfl, rfl⟩
theorem f_HE_44 : okF "HotEditions" 44 kHE 6 := ⟨"HotEditions", T_HE, 8, rfl, by decide, rfl, in_HE, Or.inl w_238⟩
theorem p_HE_44 : okPF "HotEditions" 44 kHE 6 (.object "HotEditions$Trial") := ⟨"HotEditions", T_HE, 8, t_HE, rfl, by decide, rfl, rfl, in_HE, w_238, ty_HE, nm_HE, rfl, rfl⟩
theorem f_HE_50 : okF "HotEditions" 50 kHE 7 := ⟨"HotEditions", T_HE, 8, rfl, by decide, rfl, in_HE, Or.inl w_239⟩
theorem p_HE_50 : okPF "HotEditions" 50 kHE 7 (.array (.object "HotEditions$Calls")) := ⟨"HotEditions", T_HE, 8, t_HE, rfl, by decide, rfl, rfl, in_HE, w_239, ty_HE, nm_HE, rfl, rfl⟩
theorem f_HE_62 : okF "HotEditions" 62 kLc 1 := ⟨"HotEditions$LoadedClass", T_Lc, 3, rfl, by decide, rfl, in_Lc, Or.inr ⟨"HotEditions", w_434⟩⟩
theorem f_HE_71 : okF "HotEditions" 71 kDf 0 := ⟨"HotEditions$Definition", T_Df, 7, rfl, by decide, rfl, in_Df, Or.inr ⟨"HotEditions", w_77⟩⟩
theorem f_HE_87 : okF "HotEditions" 87 kDf 6 := ⟨"HotEditions$Definition", T_Df, 7, rfl, by decide, rfl, in_Df, Or.inr ⟨"HotEditions", w_89⟩⟩
theorem f_HE_90 : okF "HotEditions" 90 kDf 5 := ⟨"HotEditions$Definition", T_Df, 7, rfl, by decide, rfl, in_Df, Or.inr ⟨"HotEditions", w_85⟩⟩
theorem f_HE_94 : okF "HotEditions" 94 kMt 2 := ⟨"HotEditions$Method", T_Mt, 3, rfl, by decide, rfl, in_Mt, Or.inr ⟨"HotEditions", w_62⟩⟩
theorem f_HE_114 : okF "HotEditions" 114 kTr 1 := ⟨"HotEditions$Trial", T_Tr, 3, rfl, by decide, rfl, in_Tr, Or.inr ⟨"HotEditions", w_170⟩⟩
theorem f_HE_146 : okF "HotEditions" 146 kLc 2 := ⟨"HotEditions$LoadedClass", T_Lc, 3, rfl, by decide, rfl, in_Lc, Or.inr ⟨"HotEditions", w_438⟩⟩
theorem f_HE_163 : okF "HotEditions" 163 kCl 1 := ⟨"HotEditions$Calls", T_Cl, 3, rfl, by decide, rfl, in_Cl, Or.inr ⟨"HotEditions", w_222⟩⟩
theorem f_HE_178 : okF "HotEditions" 178 kFr 1 := ⟨"HotEditions$Frame", T_Fr, 5, rfl, by decide, rfl, in_Fr, Or.inr ⟨"HotEditions", w_201⟩⟩
theorem f_HE_183 : okF "HotEditions" 183 kFr 0 := ⟨"HotEditions$Frame", T_Fr, 5, rfl, by decide, rfl, in_Fr, Or.inr ⟨"HotEditions", w_199⟩⟩
theorem f_HE_186 : okF "HotEditions" 186 kCl 2 := ⟨"HotEditions$Calls", T_Cl, 3, rfl, by decide, rfl, in_Cl, Or.inr ⟨"HotEditions", w_224⟩⟩
theorem f_HE_189 : okF "HotEditions" 189 kLc 0 := ⟨"HotEditions$LoadedClass", T_Lc, 3, rfl, by decide, rfl, in_Lc, Or.inr ⟨"HotEditions", w_431⟩⟩
theorem f_HE_194 : okF "HotEditions" 194 kTr 0 := ⟨"HotEditions$Trial", T_Tr, 3, rfl, by decide, rfl, in_Tr, Or.inr ⟨"HotEditions", w_166⟩⟩
theorem f_HE_197 : okF "HotEditions" 197 kTr 2 := ⟨"HotEditions$Trial", T_Tr, 3, rfl, by decide, rfl, in_Tr, Or.inr ⟨"HotEditions", w_174⟩⟩
theorem f_HE_198 : okF "HotEditions" 198 kCl 0 := ⟨"HotEditions$Calls", T_Cl, 3, rfl, by decide, rfl, in_Cl, Or.inr ⟨"HotEditions", w_220⟩⟩
theorem f_Cl_11 : okF "HotEditions$Calls" 11 kCl 0 := ⟨"HotEditions$Calls", T_Cl, 3, rfl, by decide, rfl, in_Cl, Or.inl w_219⟩
theorem p_Cl_11 : okPF "HotEditions$Calls" 11 kCl 0 (.array (.object "HotEditions$Frame")) := ⟨"HotEditions$Calls", T_Cl, 3, t_Cl, rfl, by decide, rfl, rfl, in_Cl, w_219, ty_Cl, nm_Cl, rfl, rfl⟩
theorem f_Cl_17 : okF "HotEditions$Calls" 17 kCl 1 := ⟨"HotEditions$Calls", T_Cl, 3, rfl, by decide, rfl, in_Cl, Or.inl w_221⟩
theorem p_Cl_17 : okP kCl 1 false .int := ⟨"HotEditions$Calls", T_Cl, 3, t_Cl, rfl, by decide, ty_Cl, nm_Cl, rfl, rfl⟩
theorem f_Cl_21 : okF "HotEditions$Calls" 21 kCl 2 := ⟨"HotEditions$Calls", T_Cl, 3, rfl, by decide, rfl, in_Cl, Or.inl w_223⟩
theorem p_Cl_21 : okP kCl 2 false .int := ⟨"HotEditions$Calls", T_Cl, 3, t_Cl, rfl, by decide, ty_Cl, nm_Cl, rfl, rfl⟩
theorem f_Cl_31 : okF "HotEditions$Calls" 31 kLc 1 := ⟨"HotEditions$LoadedClass", T_Lc, 3, rfl, by decide, rfl, in_Lc, Or.inr ⟨"HotEditions", w_433⟩⟩
theorem f_Cl_43 : okF "HotEditions$Calls" 43 kLc 0 := ⟨"HotEditions$LoadedClass", T_Lc, 3, rfl, by decide, rfl, in_Lc, Or.inr ⟨"HotEditions", w_430⟩⟩
theorem f_Cl_46 : okF "HotEditions$Calls" 46 kMt 2 := ⟨"HotEditions$Method", T_Mt, 3, rfl, by decide, rfl, in_Mt, Or.inr ⟨"HotEditions", w_58⟩⟩
theorem f_Cl_56 : okF "HotEditions$Calls" 56 kFr 3 := ⟨"HotEditions$Frame", T_Fr, 5, rfl, by decide, rfl, in_Fr, Or.inr ⟨"HotEditions", w_205⟩⟩
theorem p_Cl_56 : okP kFr 3 false .int := ⟨"HotEditions$Frame", T_Fr, 5, t_Fr, rfl, by decide, ty_Fr, nm_Fr, rfl, rfl⟩
theorem f_Cl_59 : okF "HotEditions$Calls" 59 kFr 2 := ⟨"HotEditions$Frame", T_Fr, 5, rfl, by decide, rfl, in_Fr, Or.inr ⟨"HotEditions", w_203⟩⟩
theorem f_Cl_60 : okF "HotEditions$Calls" 60 kCd 1 := ⟨"HotEditions$Code", T_Cd, 2, rfl, by decide, rfl, in_Cd, Or.inr ⟨"HotEditions", w_44⟩⟩
theorem f_Cl_65 : okF "HotEditions$Calls" 65 kFr 4 := ⟨"HotEditions$Frame", T_Fr, 5, rfl, by decide, rfl, in_Fr, Or.inr ⟨"HotEditions", w_207⟩⟩
theorem p_Cl_65 : okP kFr 4 false .int := ⟨"HotEditions$Frame", T_Fr, 5, t_Fr, rfl, by decide, ty_Fr, nm_Fr, rfl, rfl⟩
theorem f_Ch_11 : okF "HotEditions$Chain" 11 kCh 0 := ⟨"HotEditions$Chain", T_Ch, 1, rfl, by decide, rfl, in_Ch, Or.inl w_151⟩
theorem p_Ch_11 : okPF "HotEditions$Chain" 11 kCh 0 (.array (.object "HotEditions$Transformer")) := ⟨"HotEditions$Chain", T_Ch, 1, t_Ch, rfl, by decide, rfl, rfl, in_Ch, w_151, ty_Ch, nm_Ch, rfl, rfl⟩
theorem f_Ch_18 : okF "HotEditions$Chain" 18 kTf 0 := ⟨"HotEditions$Transformer", T_Tf, 5, rfl, by decide, rfl, in_Tf, Or.inr ⟨"HotEditions", w_131⟩⟩
theorem p_Ch_18 : okP kTf 0 false .boolean := ⟨"HotEditions$Transformer", T_Tf, 5, t_Tf, rfl, by decide, ty_Tf, nm_Tf, rfl, rfl⟩
theorem f_Ch_22 : okF "HotEditions$Chain" 22 kTf 1 := ⟨"HotEditions$Transformer", T_Tf, 5, rfl, by decide, rfl, in_Tf, Or.inr ⟨"HotEditions", w_133⟩⟩
theorem p_Ch_22 : okP kTf 1 false .int := ⟨"HotEditions$Transformer", T_Tf, 5, t_Tf, rfl, by decide, ty_Tf, nm_Tf, rfl, rfl⟩
theorem f_Ch_26 : okF "HotEditions$Chain" 26 kTf 2 := ⟨"HotEditions$Transformer", T_Tf, 5, rfl, by decide, rfl, in_Tf, Or.inr ⟨"HotEditions", w_135⟩⟩
theorem p_Ch_26 : okP kTf 2 false .int := ⟨"HotEditions$Transformer", T_Tf, 5, t_Tf, rfl, by decide, ty_Tf, nm_Tf, rfl, rfl⟩
theorem f_Ch_29 : okF "HotEditions$Chain" 29 kTf 3 := ⟨"HotEditions$Transformer", T_Tf, 5, rfl, by decide, rfl, in_Tf, Or.inr ⟨"HotEditions", w_137⟩⟩
theorem p_Ch_29 : okP kTf 3 false .int := ⟨"HotEditions$Transformer", T_Tf, 5, t_Tf, rfl, by decide, ty_Tf, nm_Tf, rfl, rfl⟩
theorem f_Ch_32 : okF "HotEditions$Chain" 32 kTf 4 := ⟨"HotEditions$Transformer", T_Tf, 5, rfl, by decide, rfl, in_Tf, Or.inr ⟨"HotEditions", w_139⟩⟩
theorem p_Ch_32 : okP kTf 4 false .boolean := ⟨"HotEditions$Transformer", T_Tf, 5, t_Tf, rfl, by decide, ty_Tf, nm_Tf, rfl, rfl⟩
theorem f_Ch_35 : okF "HotEditions$Chain" 35 kTr 1 := ⟨"HotEditions$Trial", T_Tr, 3, rfl, by decide, rfl, in_Tr, Or.inr ⟨"HotEditions", w_169⟩⟩
theorem f_Ch_41 : okF "HotEditions$Chain" 41 kTr 0 := ⟨"HotEditions$Trial", T_Tr, 3, rfl, by decide, rfl, in_Tr, Or.inr ⟨"HotEditions", w_165⟩⟩
theorem f_Ch_48 : okF "HotEditions$Chain" 48 kTr 2 := ⟨"HotEditions$Trial", T_Tr, 3, rfl, by decide, rfl, in_Tr, Or.inr ⟨"HotEditions", w_173⟩⟩
theorem f_Cd_11 : okF "HotEditions$Code" 11 kCd 0 := ⟨"HotEditions$Code", T_Cd, 2, rfl, by decide, rfl, in_Cd, Or.inl w_42⟩
theorem p_Cd_11 : okPF "HotEditions$Code" 11 kCd 0 (.array .int) := ⟨"HotEditions$Code", T_Cd, 2, t_Cd, rfl, by decide, rfl, rfl, in_Cd, w_42, ty_Cd, nm_Cd, rfl, rfl⟩
theorem f_Cd_15 : okF "HotEditions$Code" 15 kCd 1 := ⟨"HotEditions$Code", T_Cd, 2, rfl, by decide, rfl, in_Cd, Or.inl w_43⟩
theorem p_Cd_15 : okP kCd 1 false .int := ⟨"HotEditions$Code", T_Cd, 2, t_Cd, rfl, by decide, ty_Cd, nm_Cd, rfl, rfl⟩
theorem f_Df_9 : okF "HotEditions$Definition" 9 kDf 0 := ⟨"HotEditions$Definition", T_Df, 7, rfl, by decide, rfl, in_Df, Or.inl w_74⟩
theorem p_Df_9 : okPF "HotEditions$Definition" 9 kDf 0 (.array .int) := ⟨"HotEditions$Definition", T_Df, 7, t_Df, rfl, by decide, rfl, rfl, in_Df, w_74, ty_Df, nm_Df, rfl, rfl⟩
theorem f_Df_15 : okF "HotEditions$Definition" 15 kDf 1 := ⟨"HotEditions$Definition", T_Df, 7, rfl, by decide, rfl, in_Df, Or.inl w_78⟩
theorem p_Df_15 : okPF "HotEditions$Definition" 15 kDf 1 (.array .int) := ⟨"HotEditions$Definition", T_Df, 7, t_Df, rfl, by decide, rfl, rfl, in_Df, w_78, ty_Df, nm_Df, rfl, rfl⟩
theorem f_Df_18 : okF "HotEditions$Definition" 18 kDf 2 := ⟨"HotEditions$Definition", T_Df, 7, rfl, by decide, rfl, in_Df, Or.inl w_79⟩
theorem p_Df_18 : okP kDf 2 false .int := ⟨"HotEditions$Definition", T_Df, 7, t_Df, rfl, by decide, ty_Df, nm_Df, rfl, rfl⟩
theorem f_Df_22 : okF "HotEditions$Definition" 22 kDf 3 := ⟨"HotEditions$Definition", T_Df, 7, rfl, by decide, rfl, in_Df, Or.inl w_80⟩
theorem p_Df_22 : okPF "HotEditions$Definition" 22 kDf 3 (.array .int) := ⟨"HotEditions$Definition", T_Df, 7, t_Df, rfl, by decide, rfl, rfl, in_Df, w_80, ty_Df, nm_Df, rfl, rfl⟩
theorem f_Df_25 : okF "HotEditions$Definition" 25 kDf 4 := ⟨"HotEditions$Definition", T_Df, 7, rfl, by decide, rfl, in_Df, Or.inl w_81⟩
theorem p_Df_25 : okP kDf 4 false .int := ⟨"HotEditions$Definition", T_Df, 7, t_Df, rfl, by decide, ty_Df, nm_Df, rfl, rfl⟩
theorem f_Df_30 : okF "HotEditions$Definition" 30 kDf 5 := ⟨"HotEditions$Definition", T_Df, 7, rfl, by decide, rfl, in_Df, Or.inl w_82⟩
theorem p_Df_30 : okPF "HotEditions$Definition" 30 kDf 5 (.array (.object "HotEditions$Method")) := ⟨"HotEditions$Definition", T_Df, 7, t_Df, rfl, by decide, rfl, rfl, in_Df, w_82, ty_Df, nm_Df, rfl, rfl⟩
theorem f_Df_34 : okF "HotEditions$Definition" 34 kDf 6 := ⟨"HotEditions$Definition", T_Df, 7, rfl, by decide, rfl, in_Df, Or.inl w_86⟩
theorem p_Df_34 : okP kDf 6 false .int := ⟨"HotEditions$Definition", T_Df, 7, t_Df, rfl, by decide, ty_Df, nm_Df, rfl, rfl⟩
theorem f_Df_51 : okF "HotEditions$Definition" 51 kMt 0 := ⟨"HotEditions$Method", T_Mt, 3, rfl, by decide, rfl, in_Mt, Or.inr ⟨"HotEditions", w_54⟩⟩
theorem p_Df_51 : okP kMt 0 false .int := ⟨"HotEditions$Method", T_Mt, 3, t_Mt, rfl, by decide, ty_Mt, nm_Mt, rfl, rfl⟩
theorem f_Df_54 : okF "HotEditions$Definition" 54 kMt 1 := ⟨"HotEditions$Method", T_Mt, 3, rfl, by decide, rfl, in_Mt, Or.inr ⟨"HotEditions", w_56⟩⟩
theorem p_Df_54 : okP kMt 1 false .int := ⟨"HotEditions$Method", T_Mt, 3, t_Mt, rfl, by decide, ty_Mt, nm_Mt, rfl, rfl⟩
theorem f_Df_57 : okF "HotEditions$Definition" 57 kMt 2 := ⟨"HotEditions$Method", T_Mt, 3, rfl, by decide, rfl, in_Mt, Or.inr ⟨"HotEditions", w_61⟩⟩
theorem f_Fr_9 : okF "HotEditions$Frame" 9 kFr 0 := ⟨"HotEditions$Frame", T_Fr, 5, rfl, by decide, rfl, in_Fr, Or.inl w_198⟩
theorem p_Fr_9 : okP kFr 0 false .int := ⟨"HotEditions$Frame", T_Fr, 5, t_Fr, rfl, by decide, ty_Fr, nm_Fr, rfl, rfl⟩
theorem f_Fr_15 : okF "HotEditions$Frame" 15 kFr 1 := ⟨"HotEditions$Frame", T_Fr, 5, rfl, by decide, rfl, in_Fr, Or.inl w_200⟩
theorem p_Fr_15 : okP kFr 1 false .int := ⟨"HotEditions$Frame", T_Fr, 5, t_Fr, rfl, by decide, ty_Fr, nm_Fr, rfl, rfl⟩
theorem f_Fr_21 : okF "HotEditions$Frame" 21 kFr 2 := ⟨"HotEditions$Frame", T_Fr, 5, rfl, by decide, rfl, in_Fr, Or.inl w_202⟩
theorem p_Fr_21 : okPF "HotEditions$Frame" 21 kFr 2 (.object "HotEditions$Code") := ⟨"HotEditions$Frame", T_Fr, 5, t_Fr, rfl, by decide, rfl, rfl, in_Fr, w_202, ty_Fr, nm_Fr, rfl, rfl⟩
theorem f_Fr_25 : okF "HotEditions$Frame" 25 kFr 3 := ⟨"HotEditions$Frame", T_Fr, 5, rfl, by decide, rfl, in_Fr, Or.inl w_204⟩
theorem p_Fr_25 : okP kFr 3 false .int := ⟨"HotEditions$Frame", T_Fr, 5, t_Fr, rfl, by decide, ty_Fr, nm_Fr, rfl, rfl⟩
theorem f_Fr_28 : okF "HotEditions$Frame" 28 kFr 4 := ⟨"HotEditions$Frame", T_Fr, 5, rfl, by decide, rfl, in_Fr, Or.inl w_206⟩
theorem p_Fr_28 : okP kFr 4 false .int := ⟨"HotEditions$Frame", T_Fr, 5, t_Fr, rfl, by decide, ty_Fr, nm_Fr, rfl, rfl⟩
theorem f_Lc_7 : okF "HotEditions$LoadedClass" 7 kLc 0 := ⟨"HotEditions$LoadedClass", T_Lc, 3, rfl, by decide, rfl, in_Lc, Or.inl w_429⟩
theorem p_Lc_7 : okP kLc 0 false .int := ⟨"HotEditions$LoadedClass", T_Lc, 3, t_Lc, rfl, by decide, ty_Lc, nm_Lc, rfl, rfl⟩
theorem f_Lc_16 : okF "HotEditions$LoadedClass" 16 kLc 1 := ⟨"HotEditions$LoadedClass", T_Lc, 3, rfl, by decide, rfl, in_Lc, Or.inl w_432⟩
theorem p_Lc_16 : okPF "HotEditions$LoadedClass" 16 kLc 1 (.object "HotEditions$Definition") := ⟨"HotEditions$LoadedClass", T_Lc, 3, t_Lc, rfl, by decide, rfl, rfl, in_Lc, w_432, ty_Lc, nm_Lc, rfl, rfl⟩
theorem f_Lc_20 : okF "HotEditions$LoadedClass" 20 kLc 2 := ⟨"HotEditions$LoadedClass", T_Lc, 3, rfl, by decide, rfl, in_Lc, Or.inl w_436⟩
theorem p_Lc_20 : okPF "HotEditions$LoadedClass" 20 kLc 2 (.object "HotEditions$Definition") := ⟨"HotEditions$LoadedClass", T_Lc, 3, t_Lc, rfl, by decide, rfl, rfl, in_Lc, w_436, ty_Lc, nm_Lc, rfl, rfl⟩
theorem f_Mt_7 : okF "HotEditions$Method" 7 kMt 0 := ⟨"HotEditions$Method", T_Mt, 3, rfl, by decide, rfl, in_Mt, Or.inl w_52⟩
theorem p_Mt_7 : okP kMt 0 false .int := ⟨"HotEditions$Method", T_Mt, 3, t_Mt, rfl, by decide, ty_Mt, nm_Mt, rfl, rfl⟩
theorem f_Mt_13 : okF "HotEditions$Method" 13 kMt 1 := ⟨"HotEditions$Method", T_Mt, 3, rfl, by decide, rfl, in_Mt, Or.inl w_55⟩
theorem p_Mt_13 : okP kMt 1 false .int := ⟨"HotEditions$Method", T_Mt, 3, t_Mt, rfl, by decide, ty_Mt, nm_Mt, rfl, rfl⟩
theorem f_Mt_19 : okF "HotEditions$Method" 19 kMt 2 := ⟨"HotEditions$Method", T_Mt, 3, rfl, by decide, rfl, in_Mt, Or.inl w_57⟩
theorem p_Mt_19 : okPF "HotEditions$Method" 19 kMt 2 (.object "HotEditions$Code") := ⟨"HotEditions$Method", T_Mt, 3, t_Mt, rfl, by decide, rfl, rfl, in_Mt, w_57, ty_Mt, nm_Mt, rfl, rfl⟩
theorem f_Ru_19 : okF "HotEditions$Rules" 19 kDf 0 := ⟨"HotEditions$Definition", T_Df, 7, rfl, by decide, rfl, in_Df, Or.inr ⟨"HotEditions", w_75⟩⟩
theorem f_Ru_61 : okF "HotEditions$Rules" 61 kDf 6 := ⟨"HotEditions$Definition", T_Df, 7, rfl, by decide, rfl, in_Df, Or.inr ⟨"HotEditions", w_88⟩⟩
theorem f_Ru_65 : okF "HotEditions$Rules" 65 kDf 5 := ⟨"HotEditions$Definition", T_Df, 7, rfl, by decide, rfl, in_Df, Or.inr ⟨"HotEditions", w_84⟩⟩
theorem f_Ru_69 : okF "HotEditions$Rules" 69 kMt 2 := ⟨"HotEditions$Method", T_Mt, 3, rfl, by decide, rfl, in_Mt, Or.inr ⟨"HotEditions", w_60⟩⟩
theorem f_Ru_75 : okF "HotEditions$Rules" 75 kCd 1 := ⟨"HotEditions$Code", T_Cd, 2, rfl, by decide, rfl, in_Cd, Or.inr ⟨"HotEditions", w_45⟩⟩
theorem f_Ru_90 : okF "HotEditions$Rules" 90 kLc 1 := ⟨"HotEditions$LoadedClass", T_Lc, 3, rfl, by decide, rfl, in_Lc, Or.inr ⟨"HotEditions", w_435⟩⟩
theorem f_Sh_11 : okF "HotEditions$Shelf" 11 kSh 0 := ⟨"HotEditions$Shelf", T_Sh, 1, rfl, by decide, rfl, in_Sh, Or.inl w_113⟩
theorem p_Sh_11 : okPF "HotEditions$Shelf" 11 kSh 0 (.array (.object "HotEditions$LoadedClass")) := ⟨"HotEditions$Shelf", T_Sh, 1, t_Sh, rfl, by decide, rfl, rfl, in_Sh, w_113, ty_Sh, nm_Sh, rfl, rfl⟩
theorem f_Sh_22 : okF "HotEditions$Shelf" 22 kTr 1 := ⟨"HotEditions$Trial", T_Tr, 3, rfl, by decide, rfl, in_Tr, Or.inr ⟨"HotEditions", w_168⟩⟩
theorem f_Sh_32 : okF "HotEditions$Shelf" 32 kLc 2 := ⟨"HotEditions$LoadedClass", T_Lc, 3, rfl, by decide, rfl, in_Lc, Or.inr ⟨"HotEditions", w_437⟩⟩
theorem f_Sh_35 : okF "HotEditions$Shelf" 35 kTr 2 := ⟨"HotEditions$Trial", T_Tr, 3, rfl, by decide, rfl, in_Tr, Or.inr ⟨"HotEditions", w_172⟩⟩
theorem f_Tf_9 : okF "HotEditions$Transformer" 9 kTf 0 := ⟨"HotEditions$Transformer", T_Tf, 5, rfl, by decide, rfl, in_Tf, Or.inl w_130⟩
theorem p_Tf_9 : okP kTf 0 false .boolean := ⟨"HotEditions$Transformer", T_Tf, 5, t_Tf, rfl, by decide, ty_Tf, nm_Tf, rfl, rfl⟩
theorem f_Tf_15 : okF "HotEditions$Transformer" 15 kTf 1 := ⟨"HotEditions$Transformer", T_Tf, 5, rfl, by decide, rfl, in_Tf, Or.inl w_132⟩
theorem p_Tf_15 : okP kTf 1 false .int := ⟨"HotEditions$Transformer", T_Tf, 5, t_Tf, rfl, by decide, ty_Tf, nm_Tf, rfl, rfl⟩
theorem f_Tf_19 : okF "HotEditions$Transformer" 19 kTf 2 := ⟨"HotEditions$Transformer", T_Tf, 5, rfl, by decide, rfl, in_Tf, Or.inl w_134⟩
theorem p_Tf_19 : okP kTf 2 false .int := ⟨"HotEditions$Transformer", T_Tf, 5, t_Tf, rfl, by decide, ty_Tf, nm_Tf, rfl, rfl⟩
theorem f_Tf_22 : okF "HotEditions$Transformer" 22 kTf 3 := ⟨"HotEditions$Transformer", T_Tf, 5, rfl, by decide, rfl, in_Tf, Or.inl w_136⟩
theorem p_Tf_22 : okP kTf 3 false .int := ⟨"HotEditions$Transformer", T_Tf, 5, t_Tf, rfl, by decide, ty_Tf, nm_Tf, rfl, rfl⟩
theorem f_Tf_25 : okF "HotEditions$Transformer" 25 kTf 4 := ⟨"HotEditions$Transformer", T_Tf, 5, rfl, by decide, rfl, in_Tf, Or.inl w_138⟩
theorem p_Tf_25 : okP kTf 4 false .boolean := ⟨"HotEditions$Transformer", T_Tf, 5, t_Tf, rfl, by decide, ty_Tf, nm_Tf, rfl, rfl⟩
theorem f_Tf_28 : okF "HotEditions$Transformer" 28 kDf 6 := ⟨"HotEditions$Definition", T_Df, 7, rfl, by decide, rfl, in_Df, Or.inr ⟨"HotEditions", w_87⟩⟩
theorem f_Tf_33 : okF "HotEditions$Transformer" 33 kDf 5 := ⟨"HotEditions$Definition", T_Df, 7, rfl, by decide, rfl, in_Df, Or.inr ⟨"HotEditions", w_83⟩⟩
theorem f_Tf_37 : okF "HotEditions$Transformer" 37 kMt 2 := ⟨"HotEditions$Method", T_Mt, 3, rfl, by decide, rfl, in_Mt, Or.inr ⟨"HotEditions", w_59⟩⟩
theorem f_Tf_49 : okF "HotEditions$Transformer" 49 kDf 0 := ⟨"HotEditions$Definition", T_Df, 7, rfl, by decide, rfl, in_Df, Or.inr ⟨"HotEditions", w_76⟩⟩
theorem f_Tf_61 : okF "HotEditions$Transformer" 61 kMt 0 := ⟨"HotEditions$Method", T_Mt, 3, rfl, by decide, rfl, in_Mt, Or.inr ⟨"HotEditions", w_53⟩⟩
theorem p_Tf_61 : okP kMt 0 false .int := ⟨"HotEditions$Method", T_Mt, 3, t_Mt, rfl, by decide, ty_Mt, nm_Mt, rfl, rfl⟩
theorem f_Tr_9 : okF "HotEditions$Trial" 9 kTr 0 := ⟨"HotEditions$Trial", T_Tr, 3, rfl, by decide, rfl, in_Tr, Or.inl w_164⟩
theorem p_Tr_9 : okP kTr 0 false .int := ⟨"HotEditions$Trial", T_Tr, 3, t_Tr, rfl, by decide, ty_Tr, nm_Tr, rfl, rfl⟩
theorem f_Tr_18 : okF "HotEditions$Trial" 18 kTr 1 := ⟨"HotEditions$Trial", T_Tr, 3, rfl, by decide, rfl, in_Tr, Or.inl w_167⟩
theorem p_Tr_18 : okPF "HotEditions$Trial" 18 kTr 1 (.object "HotEditions$Definition") := ⟨"HotEditions$Trial", T_Tr, 3, t_Tr, rfl, by decide, rfl, rfl, in_Tr, w_167, ty_Tr, nm_Tr, rfl, rfl⟩
theorem f_Tr_22 : okF "HotEditions$Trial" 22 kTr 2 := ⟨"HotEditions$Trial", T_Tr, 3, rfl, by decide, rfl, in_Tr, Or.inl w_171⟩
theorem p_Tr_22 : okPF "HotEditions$Trial" 22 kTr 2 (.object "HotEditions$Definition") := ⟨"HotEditions$Trial", T_Tr, 3, t_Tr, rfl, by decide, rfl, rfl, in_Tr, w_171, ty_Tr, nm_Tr, rfl, rfl⟩
theorem f_Mo_7 : okF "HotEditionsModel" 7 kMo 0 := ⟨"HotEditionsModel", T_Mo, 19, rfl, by decide, rfl, in_Mo, Or.inl w_594⟩
theorem p_Mo_7 : okPF "HotEditionsModel" 7 kMo 0 (.array .int) := ⟨"HotEditionsModel", T_Mo, 19, t_Mo, rfl, by decide, rfl, rfl, in_Mo, w_594, ty_Mo, nm_Mo, rfl, rfl⟩
theorem f_Mo_13 : okF "HotEditionsModel" 13 kMo 1 := ⟨"HotEditionsModel", T_Mo, 19, rfl, by decide, rfl, in_Mo, Or.inl w_595⟩
theorem p_Mo_13 : okP kMo 1 false .int := ⟨"HotEditionsModel", T_Mo, 19, t_Mo, rfl, by decide, ty_Mo, nm_Mo, rfl, rfl⟩
theorem f_Mo_17 : okF "HotEditionsModel" 17 kMo 2 := ⟨"HotEditionsModel", T_Mo, 19, rfl, by decide, rfl, in_Mo, Or.inl w_596⟩
theorem p_Mo_17 : okPF "HotEditionsModel" 17 kMo 2 (.array .int) := ⟨"HotEditionsModel", T_Mo, 19, t_Mo, rfl, by decide, rfl, rfl, in_Mo, w_596, ty_Mo, nm_Mo, rfl, rfl⟩
theorem f_Mo_20 : okF "HotEditionsModel" 20 kMo 3 := ⟨"HotEditionsModel", T_Mo, 19, rfl, by decide, rfl, in_Mo, Or.inl w_597⟩
theorem p_Mo_20 : okPF "HotEditionsModel" 20 kMo 3 (.array .int) := ⟨"HotEditionsModel", T_Mo, 19, t_Mo, rfl, by decide, rfl, rfl, in_Mo, w_597, ty_Mo, nm_Mo, rfl, rfl⟩
theorem f_Mo_23 : okF "HotEditionsModel" 23 kMo 4 := ⟨"HotEditionsModel", T_Mo, 19, rfl, by decide, rfl, in_Mo, Or.inl w_598⟩
theorem p_Mo_23 : okPF "HotEditionsModel" 23 kMo 4 (.array .int) := ⟨"HotEditionsModel", T_Mo, 19, t_Mo, rfl, by decide, rfl, rfl, in_Mo, w_598, ty_Mo, nm_Mo, rfl, rfl⟩
theorem f_Mo_26 : okF "HotEditionsModel" 26 kMo 5 := ⟨"HotEditionsModel", T_Mo, 19, rfl, by decide, rfl, in_Mo, Or.inl w_599⟩
theorem p_Mo_26 : okPF "HotEditionsModel" 26 kMo 5 (.array .int) := ⟨"HotEditionsModel", T_Mo, 19, t_Mo, rfl, by decide, rfl, rfl, in_Mo, w_599, ty_Mo, nm_Mo, rfl, rfl⟩
theorem f_Mo_29 : okF "HotEditionsModel" 29 kMo 6 := ⟨"HotEditionsModel", T_Mo, 19, rfl, by decide, rfl, in_Mo, Or.inl w_600⟩
theorem p_Mo_29 : okPF "HotEditionsModel" 29 kMo 6 (.array .boolean) := ⟨"HotEditionsModel", T_Mo, 19, t_Mo, rfl, by decide, rfl, rfl, in_Mo, w_600, ty_Mo, nm_Mo, rfl, rfl⟩
theorem f_Mo_33 : okF "HotEditionsModel" 33 kMo 7 := ⟨"HotEditionsModel", T_Mo, 19, rfl, by decide, rfl, in_Mo, Or.inl w_601⟩
theorem p_Mo_33 : okPF "HotEditionsModel" 33 kMo 7 (.array .int) := ⟨"HotEditionsModel", T_Mo, 19, t_Mo, rfl, by decide, rfl, rfl, in_Mo, w_601, ty_Mo, nm_Mo, rfl, rfl⟩
theorem f_Mo_36 : okF "HotEditionsModel" 36 kMo 8 := ⟨"HotEditionsModel", T_Mo, 19, rfl, by decide, rfl, in_Mo, Or.inl w_602⟩
theorem p_Mo_36 : okPF "HotEditionsModel" 36 kMo 8 (.array .int) := ⟨"HotEditionsModel", T_Mo, 19, t_Mo, rfl, by decide, rfl, rfl, in_Mo, w_602, ty_Mo, nm_Mo, rfl, rfl⟩
theorem f_Mo_39 : okF "HotEditionsModel" 39 kMo 9 := ⟨"HotEditionsModel", T_Mo, 19, rfl, by decide, rfl, in_Mo, Or.inl w_603⟩
theorem p_Mo_39 : okPF "HotEditionsModel" 39 kMo 9 (.array .int) := ⟨"HotEditionsModel", T_Mo, 19, t_Mo, rfl, by decide, rfl, rfl, in_Mo, w_603, ty_Mo, nm_Mo, rfl, rfl⟩
theorem f_Mo_42 : okF "HotEditionsModel" 42 kMo 10 := ⟨"HotEditionsModel", T_Mo, 19, rfl, by decide, rfl, in_Mo, Or.inl w_604⟩
theorem p_Mo_42 : okPF "HotEditionsModel" 42 kMo 10 (.array .boolean) := ⟨"HotEditionsModel", T_Mo, 19, t_Mo, rfl, by decide, rfl, rfl, in_Mo, w_604, ty_Mo, nm_Mo, rfl, rfl⟩
theorem f_Mo_45 : okF "HotEditionsModel" 45 kMo 12 := ⟨"HotEditionsModel", T_Mo, 19, rfl, by decide, rfl, in_Mo, Or.inl w_606⟩
theorem p_Mo_45 : okPF "HotEditionsModel" 45 kMo 12 (.array .int) := ⟨"HotEditionsModel", T_Mo, 19, t_Mo, rfl, by decide, rfl, rfl, in_Mo, w_606, ty_Mo, nm_Mo, rfl, rfl⟩
theorem f_Mo_48 : okF "HotEditionsModel" 48 kMo 13 := ⟨"HotEditionsModel", T_Mo, 19, rfl, by decide, rfl, in_Mo, Or.inl w_607⟩
theorem p_Mo_48 : okPF "HotEditionsModel" 48 kMo 13 (.array .int) := ⟨"HotEditionsModel", T_Mo, 19, t_Mo, rfl, by decide, rfl, rfl, in_Mo, w_607, ty_Mo, nm_Mo, rfl, rfl⟩
theorem f_Mo_51 : okF "HotEditionsModel" 51 kMo 14 := ⟨"HotEditionsModel", T_Mo, 19, rfl, by decide, rfl, in_Mo, Or.inl w_608⟩
theorem p_Mo_51 : okPF "HotEditionsModel" 51 kMo 14 (.array .int) := ⟨"HotEditionsModel", T_Mo, 19, t_Mo, rfl, by decide, rfl, rfl, in_Mo, w_608, ty_Mo, nm_Mo, rfl, rfl⟩
theorem f_Mo_54 : okF "HotEditionsModel" 54 kMo 15 := ⟨"HotEditionsModel", T_Mo, 19, rfl, by decide, rfl, in_Mo, Or.inl w_609⟩
theorem p_Mo_54 : okPF "HotEditionsModel" 54 kMo 15 (.array .int) := ⟨"HotEditionsModel", T_Mo, 19, t_Mo, rfl, by decide, rfl, rfl, in_Mo, w_609, ty_Mo, nm_Mo, rfl, rfl⟩
theorem f_Mo_57 : okF "HotEditionsModel" 57 kMo 16 := ⟨"HotEditionsModel", T_Mo, 19, rfl, by decide, rfl, in_Mo, Or.inl w_610⟩
theorem p_Mo_57 : okPF "HotEditionsModel" 57 kMo 16 (.array .int) := ⟨"HotEditionsModel", T_Mo, 19, t_Mo, rfl, by decide, rfl, rfl, in_Mo, w_610, ty_Mo, nm_Mo, rfl, rfl⟩
theorem f_Mo_60 : okF "HotEditionsModel" 60 kMo 17 := ⟨"HotEditionsModel", T_Mo, 19, rfl, by decide, rfl, in_Mo, Or.inl w_611⟩
theorem p_Mo_60 : okPF "HotEditionsModel" 60 kMo 17 (.array .int) := ⟨"HotEditionsModel", T_Mo, 19, t_Mo, rfl, by decide, rfl, rfl, in_Mo, w_611, ty_Mo, nm_Mo, rfl, rfl⟩
theorem f_Mo_63 : okF "HotEditionsModel" 63 kMo 18 := ⟨"HotEditionsModel", T_Mo, 19, rfl, by decide, rfl, in_Mo, Or.inl w_612⟩
theorem p_Mo_63 : okPF "HotEditionsModel" 63 kMo 18 (.array .int) := ⟨"HotEditionsModel", T_Mo, 19, t_Mo, rfl, by decide, rfl, rfl, in_Mo, w_612, ty_Mo, nm_Mo, rfl, rfl⟩
theorem f_Mo_140 : okF "HotEditionsModel" 140 kMo 11 := ⟨"HotEditionsModel", T_Mo, 19, rfl, by decide, rfl, in_Mo, Or.inl w_605⟩
theorem p_Mo_140 : okP kMo 11 false .int := ⟨"HotEditionsModel", T_Mo, 19, t_Mo, rfl, by decide, ty_Mo, nm_Mo, rfl, rfl⟩
theorem n_HE_7 : okN "HotEditions" 7 kDf 7 [.null, .null, .int 0, .null, .int 0, .null, .int 0] := ⟨"HotEditions$Definition", T_Df, t_Df, rfl, in_Df, ty_Df, w_23, w_24, w_2, fun j hj => by
  match j, hj with
  | 0, _ => rfl
  | 1, _ => rfl
  | 2, _ => rfl
  | 3, _ => rfl
  | 4, _ => rfl
  | 5, _ => rfl
  | 6, _ => rfl
  | k + 7, h => exact absurd h (by omega)⟩
theorem n_HE_20 : okN "HotEditions" 20 kSh 1 [.null] := ⟨"HotEditions$Shelf", T_Sh, t_Sh, rfl, in_Sh, ty_Sh, w_105, w_106, w_5, fun j hj => by
  match j, hj with
  | 0, _ => rfl
  | k + 1, h => exact absurd h (by omega)⟩
theorem n_HE_27 : okN "HotEditions" 27 kCh 1 [.null] := ⟨"HotEditions$Chain", T_Ch, t_Ch, rfl, in_Ch, ty_Ch, w_117, w_118, w_6, fun j hj => by
  match j, hj with
  | 0, _ => rfl
  | k + 1, h => exact absurd h (by omega)⟩
theorem n_HE_34 : okN "HotEditions" 34 kTr 3 [.int 0, .null, .null] := ⟨"HotEditions$Trial", T_Tr, t_Tr, rfl, in_Tr, ty_Tr, w_155, w_157, w_8, fun j hj => by
  match j, hj with
  | 0, _ => rfl
  | 1, _ => rfl
  | 2, _ => rfl
  | k + 3, h => exact absurd h (by omega)⟩
theorem n_HE_48 : okN "HotEditions" 48 kCl 3 [.null, .int 0, .int 0] := ⟨"HotEditions$Calls", T_Cl, t_Cl, rfl, in_Cl, ty_Cl, w_182, w_184, w_9, fun j hj => by
  match j, hj with
  | 0, _ => rfl
  | 1, _ => rfl
  | 2, _ => rfl
  | k + 3, h => exact absurd h (by omega)⟩
theorem n_Cl_9 : okN "HotEditions$Calls" 9 kFr 5 [.int 0, .int 0, .null, .int 0, .int 0] := ⟨"HotEditions$Frame", T_Fr, t_Fr, rfl, in_Fr, ty_Fr, w_189, w_191, w_10, fun j hj => by
  match j, hj with
  | 0, _ => rfl
  | 1, _ => rfl
  | 2, _ => rfl
  | 3, _ => rfl
  | 4, _ => rfl
  | k + 5, h => exact absurd h (by omega)⟩
theorem n_Ch_9 : okN "HotEditions$Chain" 9 kTf 5 [.int 0, .int 0, .int 0, .int 0, .int 0] := ⟨"HotEditions$Transformer", T_Tf, t_Tf, rfl, in_Tf, ty_Tf, w_123, w_125, w_7, fun j hj => by
  match j, hj with
  | 0, _ => rfl
  | 1, _ => rfl
  | 2, _ => rfl
  | 3, _ => rfl
  | 4, _ => rfl
  | k + 5, h => exact absurd h (by omega)⟩
theorem n_Df_28 : okN "HotEditions$Definition" 28 kMt 3 [.int 0, .int 0, .null] := ⟨"HotEditions$Method", T_Mt, t_Mt, rfl, in_Mt, ty_Mt, w_29, w_31, w_3, fun j hj => by
  match j, hj with
  | 0, _ => rfl
  | 1, _ => rfl
  | 2, _ => rfl
  | k + 3, h => exact absurd h (by omega)⟩
theorem n_Fr_18 : okN "HotEditions$Frame" 18 kCd 2 [.null, .int 0] := ⟨"HotEditions$Code", T_Cd, t_Cd, rfl, in_Cd, ty_Cd, w_196, w_37, w_4, fun j hj => by
  match j, hj with
  | 0, _ => rfl
  | 1, _ => rfl
  | k + 2, h => exact absurd h (by omega)⟩
theorem n_Lc_13 : okN "HotEditions$LoadedClass" 13 kDf 7 [.null, .null, .int 0, .null, .int 0, .null, .int 0] := ⟨"HotEditions$Definition", T_Df, t_Df, rfl, in_Df, ty_Df, w_427, w_24, w_2, fun j hj => by
  match j, hj with
  | 0, _ => rfl
  | 1, _ => rfl
  | 2, _ => rfl
  | 3, _ => rfl
  | 4, _ => rfl
  | 5, _ => rfl
  | 6, _ => rfl
  | k + 7, h => exact absurd h (by omega)⟩
theorem n_Mt_16 : okN "HotEditions$Method" 16 kCd 2 [.null, .int 0] := ⟨"HotEditions$Code", T_Cd, t_Cd, rfl, in_Cd, ty_Cd, w_36, w_37, w_4, fun j hj => by
  match j, hj with
  | 0, _ => rfl
  | 1, _ => rfl
  | k + 2, h => exact absurd h (by omega)⟩
theorem n_Sh_9 : okN "HotEditions$Shelf" 9 kLc 3 [.int 0, .null, .null] := ⟨"HotEditions$LoadedClass", T_Lc, t_Lc, rfl, in_Lc, ty_Lc, w_111, w_422, w_14, fun j hj => by
  match j, hj with
  | 0, _ => rfl
  | 1, _ => rfl
  | 2, _ => rfl
  | k + 3, h => exact absurd h (by omega)⟩
theorem n_Tr_15 : okN "HotEditions$Trial" 15 kDf 7 [.null, .null, .int 0, .null, .int 0, .null, .int 0] := ⟨"HotEditions$Definition", T_Df, t_Df, rfl, in_Df, ty_Df, w_162, w_24, w_2, fun j hj => by
  match j, hj with
  | 0, _ => rfl
  | 1, _ => rfl
  | 2, _ => rfl
  | 3, _ => rfl
  | 4, _ => rfl
  | 5, _ => rfl
  | 6, _ => rfl
  | k + 7, h => exact absurd h (by omega)⟩
theorem n_Lw_7 : okN "HotEditionsLaw" 7 kHE 8 [.null, .int 0, .null, .null, .null, .int 0, .null, .null] := ⟨"HotEditions", T_HE, t_HE, rfl, in_HE, ty_HE, w_15, w_16, w_1, fun j hj => by
  match j, hj with
  | 0, _ => rfl
  | 1, _ => rfl
  | 2, _ => rfl
  | 3, _ => rfl
  | 4, _ => rfl
  | 5, _ => rfl
  | 6, _ => rfl
  | 7, _ => rfl
  | k + 8, h => exact absurd h (by omega)⟩
theorem n_Lw_10 : okN "HotEditionsLaw" 10 kMo 19 [.null, .int 0, .null, .null, .null, .null, .null, .null, .null, .null, .null, .int 0, .null, .null, .null, .null, .null, .null, .null] := ⟨"HotEditionsModel", T_Mo, t_Mo, rfl, in_Mo, ty_Mo, w_580, w_581, w_11, fun j hj => by
  match j, hj with
  | 0, _ => rfl
  | 1, _ => rfl
  | 2, _ => rfl
  | 3, _ => rfl
  | 4, _ => rfl
  | 5, _ => rfl
  | 6, _ => rfl
  | 7, _ => rfl
  | 8, _ => rfl
  | 9, _ => rfl
  | 10, _ => rfl
  | 11, _ => rfl
  | 12, _ => rfl
  | 13, _ => rfl
  | 14, _ => rfl
  | 15, _ => rfl
  | 16, _ => rfl
  | 17, _ => rfl
  | 18, _ => rfl
  | k + 19, h => exact absurd h (by omega)⟩
theorem mk_HE_init : okM m_HE_init 0 := ⟨w_19, w_1, by decide +kernel, by decide +kernel, by decide +kernel, by decide +kernel, by decide +kernel⟩
theorem mk_HE_blank : okM m_HE_blank 0 := ⟨w_260, w_1, by decide +kernel, by decide +kernel, by decide +kernel, by decide +kernel, by decide +kernel⟩
theorem mk_HE_copy : okM m_HE_copy 1 := ⟨w_265, w_1, by decide +kernel, by decide +kernel, by decide +kernel, by decide +kernel, by decide +kernel⟩
theorem mk_HE_set : okM m_HE_set 2 := ⟨w_289, w_1, by decide +kernel, by decide +kernel, by decide +kernel, by decide +kernel, by decide +kernel⟩
theorem mk_HE_implement : okM m_HE_implement 1 := ⟨w_293, w_1, by decide +kernel, by decide +kernel, by decide +kernel, by decide +kernel, by decide +kernel⟩
theorem mk_HE_field : okM m_HE_field 3 := ⟨w_301, w_1, by decide +kernel, by decide +kernel, by decide +kernel, by decide +kernel, by decide +kernel⟩
theorem mk_HE_method : okM m_HE_method 2 := ⟨w_309, w_1, by decide +kernel, by decide +kernel, by decide +kernel, by decide +kernel, by decide +kernel⟩
theorem mk_HE_choose : okM m_HE_choose 1 := ⟨w_321, w_1, by decide +kernel, by decide +kernel, by decide +kernel, by decide +kernel, by decide +kernel⟩
theorem mk_HE_code : okM m_HE_code 3 := ⟨w_326, w_1, by decide +kernel, by decide +kernel, by decide +kernel, by decide +kernel, by decide +kernel⟩
theorem mk_HE_load : okM m_HE_load 0 := ⟨w_334, w_1, by decide +kernel, by decide +kernel, by decide +kernel, by decide +kernel, by decide +kernel⟩
theorem mk_HE_transformer : okM m_HE_transformer 4 := ⟨w_455, w_1, by decide +kernel, by decide +kernel, by decide +kernel, by decide +kernel, by decide +kernel⟩
theorem mk_HE_remove : okM m_HE_remove 1 := ⟨w_463, w_1, by decide +kernel, by decide +kernel, by decide +kernel, by decide +kernel, by decide +kernel⟩
theorem mk_HE_queue : okM m_HE_queue 1 := ⟨w_471, w_1, by decide +kernel, by decide +kernel, by decide +kernel, by decide +kernel, by decide +kernel⟩
theorem mk_HE_swap : okM m_HE_swap 0 := ⟨w_479, w_1, by decide +kernel, by decide +kernel, by decide +kernel, by decide +kernel, by decide +kernel⟩
theorem mk_HE_repeat : okM m_HE_repeat 1 := ⟨w_520, w_1, by decide +kernel, by decide +kernel, by decide +kernel, by decide +kernel, by decide +kernel⟩
theorem mk_HE_start : okM m_HE_start 3 := ⟨w_525, w_1, by decide +kernel, by decide +kernel, by decide +kernel, by decide +kernel, by decide +kernel⟩
theorem mk_HE_step : okM m_HE_step 2 := ⟨w_543, w_1, by decide +kernel, by decide +kernel, by decide +kernel, by decide +kernel, by decide +kernel⟩
theorem mk_HE_frame : okM m_HE_frame 2 := ⟨w_559, w_1, by decide +kernel, by decide +kernel, by decide +kernel, by decide +kernel, by decide +kernel⟩
theorem mk_HE_result : okM m_HE_result 1 := ⟨w_567, w_1, by decide +kernel, by decide +kernel, by decide +kernel, by decide +kernel, by decide +kernel⟩
theorem mk_HE_edition : okM m_HE_edition 1 := ⟨w_571, w_1, by decide +kernel, by decide +kernel, by decide +kernel, by decide +kernel, by decide +kernel⟩
theorem mk_HE_kept : okM m_HE_kept 1 := ⟨w_575, w_1, by decide +kernel, by decide +kernel, by decide +kernel, by decide +kernel, by decide +kernel⟩
theorem mk_HE_isClass : okM m_HE_isClass 1 := ⟨w_416, w_1, by decide +kernel, by decide +kernel, by decide +kernel, by decide +kernel, by decide +kernel⟩
theorem mk_HE_isThread : okM m_HE_isThread 1 := ⟨w_528, w_1, by decide +kernel, by decide +kernel, by decide +kernel, by decide +kernel, by decide +kernel⟩
theorem mk_HE_isInBatch : okM m_HE_isInBatch 1 := ⟨w_475, w_1, by decide +kernel, by decide +kernel, by decide +kernel, by decide +kernel, by decide +kernel⟩
theorem mk_HE_firstBrokenOfBatch : okM m_HE_firstBrokenOfBatch 0 := ⟨w_483, w_1, by decide +kernel, by decide +kernel, by decide +kernel, by decide +kernel, by decide +kernel⟩
theorem mk_HE_installBatch : okM m_HE_installBatch 0 := ⟨w_515, w_1, by decide +kernel, by decide +kernel, by decide +kernel, by decide +kernel, by decide +kernel⟩
theorem mk_HE_findFrame : okM m_HE_findFrame 2 := ⟨w_563, w_1, by decide +kernel, by decide +kernel, by decide +kernel, by decide +kernel, by decide +kernel⟩
theorem mk_HE_isFirstOfItsEdition : okM m_HE_isFirstOfItsEdition 3 := ⟨w_579, w_1, by decide +kernel, by decide +kernel, by decide +kernel, by decide +kernel, by decide +kernel⟩
theorem mk_Mo_init : okM m_Mo_init 0 := ⟨w_584, w_11, by decide +kernel, by decide +kernel, by decide +kernel, by decide +kernel, by decide +kernel⟩
theorem mk_Mo_get : okM m_Mo_get 2 := ⟨w_669, w_11, by decide +kernel, by decide +kernel, by decide +kernel, by decide +kernel, by decide +kernel⟩
theorem mk_Mo_put : okM m_Mo_put 3 := ⟨w_593, w_11, by decide +kernel, by decide +kernel, by decide +kernel, by decide +kernel, by decide +kernel⟩
theorem mk_Mo_transcribe : okM m_Mo_transcribe 2 := ⟨w_665, w_11, by decide +kernel, by decide +kernel, by decide +kernel, by decide +kernel, by decide +kernel⟩
theorem mk_Mo_loaded : okM m_Mo_loaded 1 := ⟨w_661, w_11, by decide +kernel, by decide +kernel, by decide +kernel, by decide +kernel, by decide +kernel⟩
theorem mk_Mo_blank : okM m_Mo_blank 0 := ⟨w_589, w_11, by decide +kernel, by decide +kernel, by decide +kernel, by decide +kernel, by decide +kernel⟩
theorem mk_Mo_copy : okM m_Mo_copy 1 := ⟨w_657, w_11, by decide +kernel, by decide +kernel, by decide +kernel, by decide +kernel, by decide +kernel⟩
theorem mk_Mo_set : okM m_Mo_set 2 := ⟨w_673, w_11, by decide +kernel, by decide +kernel, by decide +kernel, by decide +kernel, by decide +kernel⟩
theorem mk_Mo_implement : okM m_Mo_implement 1 := ⟨w_677, w_11, by decide +kernel, by decide +kernel, by decide +kernel, by decide +kernel, by decide +kernel⟩
theorem mk_Mo_field : okM m_Mo_field 3 := ⟨w_681, w_11, by decide +kernel, by decide +kernel, by decide +kernel, by decide +kernel, by decide +kernel⟩
theorem mk_Mo_methodAt : okM m_Mo_methodAt 1 := ⟨w_688, w_11, by decide +kernel, by decide +kernel, by decide +kernel, by decide +kernel, by decide +kernel⟩
theorem mk_Mo_method : okM m_Mo_method 2 := ⟨w_685, w_11, by decide +kernel, by decide +kernel, by decide +kernel, by decide +kernel, by decide +kernel⟩
theorem mk_Mo_choose : okM m_Mo_choose 1 := ⟨w_692, w_11, by decide +kernel, by decide +kernel, by decide +kernel, by decide +kernel, by decide +kernel⟩
theorem mk_Mo_code : okM m_Mo_code 3 := ⟨w_696, w_11, by decide +kernel, by decide +kernel, by decide +kernel, by decide +kernel, by decide +kernel⟩
theorem mk_Mo_transformer : okM m_Mo_transformer 4 := ⟨w_700, w_11, by decide +kernel, by decide +kernel, by decide +kernel, by decide +kernel, by decide +kernel⟩
theorem mk_Mo_remove : okM m_Mo_remove 1 := ⟨w_704, w_11, by decide +kernel, by decide +kernel, by decide +kernel, by decide +kernel, by decide +kernel⟩
theorem mk_Mo_find : okM m_Mo_find 2 := ⟨w_724, w_11, by decide +kernel, by decide +kernel, by decide +kernel, by decide +kernel, by decide +kernel⟩
theorem mk_Mo_change : okM m_Mo_change 2 := ⟨w_720, w_11, by decide +kernel, by decide +kernel, by decide +kernel, by decide +kernel, by decide +kernel⟩
theorem mk_Mo_changes : okM m_Mo_changes 3 := ⟨w_716, w_11, by decide +kernel, by decide +kernel, by decide +kernel, by decide +kernel, by decide +kernel⟩
theorem mk_Mo_treat : okM m_Mo_treat 3 := ⟨w_712, w_11, by decide +kernel, by decide +kernel, by decide +kernel, by decide +kernel, by decide +kernel⟩
theorem mk_Mo_twice : okM m_Mo_twice 4 := ⟨w_732, w_11, by decide +kernel, by decide +kernel, by decide +kernel, by decide +kernel, by decide +kernel⟩
theorem mk_Mo_strangeOp : okM m_Mo_strangeOp 1 := ⟨w_736, w_11, by decide +kernel, by decide +kernel, by decide +kernel, by decide +kernel, by decide +kernel⟩
theorem mk_Mo_circle : okM m_Mo_circle 1 := ⟨w_740, w_11, by decide +kernel, by decide +kernel, by decide +kernel, by decide +kernel, by decide +kernel⟩
theorem mk_Mo_callsNothing : okM m_Mo_callsNothing 1 := ⟨w_744, w_11, by decide +kernel, by decide +kernel, by decide +kernel, by decide +kernel, by decide +kernel⟩
theorem mk_Mo_plainRules : okM m_Mo_plainRules 1 := ⟨w_728, w_11, by decide +kernel, by decide +kernel, by decide +kernel, by decide +kernel, by decide +kernel⟩
theorem mk_Mo_otherInterfaces : okM m_Mo_otherInterfaces 2 := ⟨w_772, w_11, by decide +kernel, by decide +kernel, by decide +kernel, by decide +kernel, by decide +kernel⟩
theorem mk_Mo_otherFields : okM m_Mo_otherFields 2 := ⟨w_776, w_11, by decide +kernel, by decide +kernel, by decide +kernel, by decide +kernel, by decide +kernel⟩
theorem mk_Mo_moreMethods : okM m_Mo_moreMethods 2 := ⟨w_780, w_11, by decide +kernel, by decide +kernel, by decide +kernel, by decide +kernel, by decide +kernel⟩
theorem mk_Mo_otherMethodFlags : okM m_Mo_otherMethodFlags 2 := ⟨w_784, w_11, by decide +kernel, by decide +kernel, by decide +kernel, by decide +kernel, by decide +kernel⟩
theorem mk_Mo_rules : okM m_Mo_rules 2 := ⟨w_768, w_11, by decide +kernel, by decide +kernel, by decide +kernel, by decide +kernel, by decide +kernel⟩
theorem mk_Mo_inFrames : okM m_Mo_inFrames 1 := ⟨w_756, w_11, by decide +kernel, by decide +kernel, by decide +kernel, by decide +kernel, by decide +kernel⟩
theorem mk_Mo_inUse : okM m_Mo_inUse 1 := ⟨w_752, w_11, by decide +kernel, by decide +kernel, by decide +kernel, by decide +kernel, by decide +kernel⟩
theorem mk_Mo_renew : okM m_Mo_renew 2 := ⟨w_748, w_11, by decide +kernel, by decide +kernel, by decide +kernel, by decide +kernel, by decide +kernel⟩
theorem mk_Mo_load : okM m_Mo_load 0 := ⟨w_708, w_11, by decide +kernel, by decide +kernel, by decide +kernel, by decide +kernel, by decide +kernel⟩
theorem mk_Mo_queue : okM m_Mo_queue 1 := ⟨w_760, w_11, by decide +kernel, by decide +kernel, by decide +kernel, by decide +kernel, by decide +kernel⟩
theorem mk_Mo_swap : okM m_Mo_swap 0 := ⟨w_764, w_11, by decide +kernel, by decide +kernel, by decide +kernel, by decide +kernel, by decide +kernel⟩
theorem mk_Mo_repeat : okM m_Mo_repeat 1 := ⟨w_788, w_11, by decide +kernel, by decide +kernel, by decide +kernel, by decide +kernel, by decide +kernel⟩
theorem mk_Mo_push : okM m_Mo_push 3 := ⟨w_799, w_11, by decide +kernel, by decide +kernel, by decide +kernel, by decide +kernel, by decide +kernel⟩
theorem mk_Mo_isThread : okM m_Mo_isThread 1 := ⟨w_795, w_11, by decide +kernel, by decide +kernel, by decide +kernel, by decide +kernel, by decide +kernel⟩
theorem mk_Mo_start : okM m_Mo_start 3 := ⟨w_792, w_11, by decide +kernel, by decide +kernel, by decide +kernel, by decide +kernel, by decide +kernel⟩
theorem mk_Mo_once : okM m_Mo_once 1 := ⟨w_807, w_11, by decide +kernel, by decide +kernel, by decide +kernel, by decide +kernel, by decide +kernel⟩
theorem mk_Mo_step : okM m_Mo_step 2 := ⟨w_803, w_11, by decide +kernel, by decide +kernel, by decide +kernel, by decide +kernel, by decide +kernel⟩
theorem mk_Mo_frame : okM m_Mo_frame 2 := ⟨w_811, w_11, by decide +kernel, by decide +kernel, by decide +kernel, by decide +kernel, by decide +kernel⟩
theorem mk_Mo_result : okM m_Mo_result 1 := ⟨w_815, w_11, by decide +kernel, by decide +kernel, by decide +kernel, by decide +kernel, by decide +kernel⟩
theorem mk_Mo_edition : okM m_Mo_edition 1 := ⟨w_819, w_11, by decide +kernel, by decide +kernel, by decide +kernel, by decide +kernel, by decide +kernel⟩
theorem mk_Mo_kept : okM m_Mo_kept 1 := ⟨w_823, w_11, by decide +kernel, by decide +kernel, by decide +kernel, by decide +kernel, by decide +kernel⟩
theorem mk_Cl_init : okM m_Cl_init 0 := ⟨w_187, w_9, by decide +kernel, by decide +kernel, by decide +kernel, by decide +kernel, by decide +kernel⟩
theorem mk_Cl_enter : okM m_Cl_enter 3 := ⟨w_532, w_9, by decide +kernel, by decide +kernel, by decide +kernel, by decide +kernel, by decide +kernel⟩
theorem mk_Cl_advance : okM m_Cl_advance 1 := ⟨w_547, w_9, by decide +kernel, by decide +kernel, by decide +kernel, by decide +kernel, by decide +kernel⟩
theorem mk_Cl_leave : okM m_Cl_leave 1 := ⟨w_551, w_9, by decide +kernel, by decide +kernel, by decide +kernel, by decide +kernel, by decide +kernel⟩
theorem mk_Ch_init : okM m_Ch_init 0 := ⟨w_121, w_6, by decide +kernel, by decide +kernel, by decide +kernel, by decide +kernel, by decide +kernel⟩
theorem mk_Ch_put : okM m_Ch_put 4 := ⟨w_459, w_6, by decide +kernel, by decide +kernel, by decide +kernel, by decide +kernel, by decide +kernel⟩
theorem mk_Ch_free : okM m_Ch_free 1 := ⟨w_467, w_6, by decide +kernel, by decide +kernel, by decide +kernel, by decide +kernel, by decide +kernel⟩
theorem mk_Ch_treat : okM m_Ch_treat 1 := ⟨w_343, w_6, by decide +kernel, by decide +kernel, by decide +kernel, by decide +kernel, by decide +kernel⟩
theorem mk_Ch_change : okM m_Ch_change 3 := ⟨w_347, w_6, by decide +kernel, by decide +kernel, by decide +kernel, by decide +kernel, by decide +kernel⟩
theorem mk_Cd_init : okM m_Cd_init 0 := ⟨w_40, w_4, by decide +kernel, by decide +kernel, by decide +kernel, by decide +kernel, by decide +kernel⟩
theorem mk_Cd_clear : okM m_Cd_clear 0 := ⟨w_317, w_4, by decide +kernel, by decide +kernel, by decide +kernel, by decide +kernel, by decide +kernel⟩
theorem mk_Cd_become : okM m_Cd_become 1 := ⟨w_284, w_4, by decide +kernel, by decide +kernel, by decide +kernel, by decide +kernel, by decide +kernel⟩
theorem mk_Cd_add : okM m_Cd_add 3 := ⟨w_330, w_4, by decide +kernel, by decide +kernel, by decide +kernel, by decide +kernel, by decide +kernel⟩
theorem mk_Cd_opAt : okM m_Cd_opAt 1 := ⟨w_363, w_4, by decide +kernel, by decide +kernel, by decide +kernel, by decide +kernel, by decide +kernel⟩
theorem mk_Cd_firstOperandAt : okM m_Cd_firstOperandAt 1 := ⟨w_405, w_4, by decide +kernel, by decide +kernel, by decide +kernel, by decide +kernel, by decide +kernel⟩
theorem mk_Cd_secondOperandAt : okM m_Cd_secondOperandAt 1 := ⟨w_409, w_4, by decide +kernel, by decide +kernel, by decide +kernel, by decide +kernel, by decide +kernel⟩
theorem mk_Cd_raiseAdditions : okM m_Cd_raiseAdditions 1 := ⟨w_359, w_4, by decide +kernel, by decide +kernel, by decide +kernel, by decide +kernel, by decide +kernel⟩
theorem mk_Df_init : okM m_Df_init 0 := ⟨w_27, w_2, by decide +kernel, by decide +kernel, by decide +kernel, by decide +kernel, by decide +kernel⟩
theorem mk_Df_clear : okM m_Df_clear 0 := ⟨w_73, w_2, by decide +kernel, by decide +kernel, by decide +kernel, by decide +kernel, by decide +kernel⟩
theorem mk_Df_become : okM m_Df_become 1 := ⟨w_273, w_2, by decide +kernel, by decide +kernel, by decide +kernel, by decide +kernel, by decide +kernel⟩
theorem mk_Df_addInterface : okM m_Df_addInterface 1 := ⟨w_297, w_2, by decide +kernel, by decide +kernel, by decide +kernel, by decide +kernel, by decide +kernel⟩
theorem mk_Df_addField : okM m_Df_addField 3 := ⟨w_305, w_2, by decide +kernel, by decide +kernel, by decide +kernel, by decide +kernel, by decide +kernel⟩
theorem mk_Df_addMethod : okM m_Df_addMethod 2 := ⟨w_313, w_2, by decide +kernel, by decide +kernel, by decide +kernel, by decide +kernel, by decide +kernel⟩
theorem mk_Df_findMethod : okM m_Df_findMethod 1 := ⟨w_367, w_2, by decide +kernel, by decide +kernel, by decide +kernel, by decide +kernel, by decide +kernel⟩
theorem mk_Df_hasInterface : okM m_Df_hasInterface 1 := ⟨w_498, w_2, by decide +kernel, by decide +kernel, by decide +kernel, by decide +kernel, by decide +kernel⟩
theorem mk_Df_hasEqualInterfaces : okM m_Df_hasEqualInterfaces 0 := ⟨w_379, w_2, by decide +kernel, by decide +kernel, by decide +kernel, by decide +kernel, by decide +kernel⟩
theorem mk_Df_hasFieldsOfOneName : okM m_Df_hasFieldsOfOneName 0 := ⟨w_383, w_2, by decide +kernel, by decide +kernel, by decide +kernel, by decide +kernel, by decide +kernel⟩
theorem mk_Df_hasMethodsOfOneName : okM m_Df_hasMethodsOfOneName 0 := ⟨w_387, w_2, by decide +kernel, by decide +kernel, by decide +kernel, by decide +kernel, by decide +kernel⟩
theorem mk_Df_hasFieldsOf : okM m_Df_hasFieldsOf 1 := ⟨w_502, w_2, by decide +kernel, by decide +kernel, by decide +kernel, by decide +kernel, by decide +kernel⟩
theorem mk_Df_hasInterfacesOf : okM m_Df_hasInterfacesOf 1 := ⟨w_494, w_2, by decide +kernel, by decide +kernel, by decide +kernel, by decide +kernel, by decide +kernel⟩
theorem mk_Df_hasMethodNamesOf : okM m_Df_hasMethodNamesOf 1 := ⟨w_506, w_2, by decide +kernel, by decide +kernel, by decide +kernel, by decide +kernel, by decide +kernel⟩
theorem mk_Df_hasMethodFlagsOf : okM m_Df_hasMethodFlagsOf 1 := ⟨w_511, w_2, by decide +kernel, by decide +kernel, by decide +kernel, by decide +kernel, by decide +kernel⟩
theorem mk_Fr_init : okM m_Fr_init 0 := ⟨w_194, w_10, by decide +kernel, by decide +kernel, by decide +kernel, by decide +kernel, by decide +kernel⟩
theorem mk_Fr_begin : okM m_Fr_begin 3 := ⟨w_538, w_10, by decide +kernel, by decide +kernel, by decide +kernel, by decide +kernel, by decide +kernel⟩
theorem mk_Lc_init : okM m_Lc_init 0 := ⟨w_425, w_14, by decide +kernel, by decide +kernel, by decide +kernel, by decide +kernel, by decide +kernel⟩
theorem mk_Lc_addEdition : okM m_Lc_addEdition 1 := ⟨w_449, w_14, by decide +kernel, by decide +kernel, by decide +kernel, by decide +kernel, by decide +kernel⟩
theorem mk_Mt_init : okM m_Mt_init 0 := ⟨w_34, w_3, by decide +kernel, by decide +kernel, by decide +kernel, by decide +kernel, by decide +kernel⟩
theorem mk_Mt_become : okM m_Mt_become 1 := ⟨w_280, w_3, by decide +kernel, by decide +kernel, by decide +kernel, by decide +kernel, by decide +kernel⟩
theorem mk_Ru_firstBroken : okM m_Ru_firstBroken 4 := ⟨w_486, w_13, by decide +kernel, by decide +kernel, by decide +kernel, by decide +kernel, by decide +kernel⟩
theorem mk_Ru_firstBrokenAlone : okM m_Ru_firstBrokenAlone 2 := ⟨w_375, w_13, by decide +kernel, by decide +kernel, by decide +kernel, by decide +kernel, by decide +kernel⟩
theorem mk_Ru_firstBrokenBeside : okM m_Ru_firstBrokenBeside 3 := ⟨w_490, w_13, by decide +kernel, by decide +kernel, by decide +kernel, by decide +kernel, by decide +kernel⟩
theorem mk_Ru_hasUnknownOp : okM m_Ru_hasUnknownOp 1 := ⟨w_390, w_13, by decide +kernel, by decide +kernel, by decide +kernel, by decide +kernel, by decide +kernel⟩
theorem mk_Ru_meetsItselfAbove : okM m_Ru_meetsItselfAbove 2 := ⟨w_394, w_13, by decide +kernel, by decide +kernel, by decide +kernel, by decide +kernel, by decide +kernel⟩
theorem mk_Ru_lacksSuper : okM m_Ru_lacksSuper 2 := ⟨w_398, w_13, by decide +kernel, by decide +kernel, by decide +kernel, by decide +kernel, by decide +kernel⟩
theorem mk_Ru_lacksCalledMethod : okM m_Ru_lacksCalledMethod 2 := ⟨w_401, w_13, by decide +kernel, by decide +kernel, by decide +kernel, by decide +kernel, by decide +kernel⟩
theorem mk_Ru_isCallable : okM m_Ru_isCallable 4 := ⟨w_412, w_13, by decide +kernel, by decide +kernel, by decide +kernel, by decide +kernel, by decide +kernel⟩
theorem mk_Sh_init : okM m_Sh_init 0 := ⟨w_109, w_5, by decide +kernel, by decide +kernel, by decide +kernel, by decide +kernel, by decide +kernel⟩
theorem mk_Sh_find : okM m_Sh_find 1 := ⟨w_269, w_5, by decide +kernel, by decide +kernel, by decide +kernel, by decide +kernel, by decide +kernel⟩
theorem mk_Sh_add : okM m_Sh_add 2 := ⟨w_420, w_5, by decide +kernel, by decide +kernel, by decide +kernel, by decide +kernel, by decide +kernel⟩
theorem mk_Tf_init : okM m_Tf_init 0 := ⟨w_128, w_7, by decide +kernel, by decide +kernel, by decide +kernel, by decide +kernel, by decide +kernel⟩
theorem mk_Tf_isFor : okM m_Tf_isFor 1 := ⟨w_351, w_7, by decide +kernel, by decide +kernel, by decide +kernel, by decide +kernel, by decide +kernel⟩
theorem mk_Tf_change : okM m_Tf_change 1 := ⟨w_355, w_7, by decide +kernel, by decide +kernel, by decide +kernel, by decide +kernel, by decide +kernel⟩
theorem mk_Tf_emptyAllCode : okM m_Tf_emptyAllCode 1 := ⟨w_370, w_7, by decide +kernel, by decide +kernel, by decide +kernel, by decide +kernel, by decide +kernel⟩
theorem mk_Tr_init : okM m_Tr_init 0 := ⟨w_160, w_8, by decide +kernel, by decide +kernel, by decide +kernel, by decide +kernel, by decide +kernel⟩
theorem mk_Tr_take : okM m_Tr_take 2 := ⟨w_338, w_8, by decide +kernel, by decide +kernel, by decide +kernel, by decide +kernel, by decide +kernel⟩
theorem k_HE_init_9 : okCI m_HE_init 9 m_Df_init 0 := ⟨Or.inl w_25, mk_Df_init, ⟨w_26, rfl, rfl⟩, by decide +kernel, by decide +kernel⟩
theorem k_HE_init_22 : okCI m_HE_init 22 m_Sh_init 0 := ⟨Or.inr ⟨"HotEditions", w_107⟩, mk_Sh_init, ⟨w_108, rfl, rfl⟩, by decide +kernel, by decide +kernel⟩
theorem k_HE_init_29 : okCI m_HE_init 29 m_Ch_init 0 := ⟨Or.inl w_119, mk_Ch_init, ⟨w_120, rfl, rfl⟩, by decide +kernel, by decide +kernel⟩
theorem k_HE_init_43 : okCI m_HE_init 43 m_Tr_init 0 := ⟨Or.inr ⟨"HotEditions", w_158⟩, mk_Tr_init, ⟨w_159, rfl, rfl⟩, by decide +kernel, by decide +kernel⟩
theorem k_HE_init_54 : okCI m_HE_init 54 m_Cl_init 0 := ⟨Or.inl w_185, mk_Cl_init, ⟨w_186, rfl, rfl⟩, by decide +kernel, by decide +kernel⟩
theorem k_HE_blank_55 : okCV m_HE_blank 55 m_Df_clear kDf 0 := ⟨Or.inl w_261, mk_Df_clear, ⟨w_71, w_72⟩, by decide +kernel, ⟨_, rfl, rfl⟩, by decide +kernel⟩
theorem k_HE_copy_58 : okCV m_HE_copy 58 m_Sh_find kSh 1 := ⟨Or.inl w_266, mk_Sh_find, ⟨w_267, w_268⟩, by decide +kernel, ⟨_, rfl, rfl⟩, by decide +kernel⟩
theorem k_HE_copy_67 : okCV m_HE_copy 67 m_Df_become kDf 1 := ⟨Or.inl w_270, mk_Df_become, ⟨w_271, w_272⟩, by decide +kernel, ⟨_, rfl, rfl⟩, by decide +kernel⟩
theorem k_HE_implement_75 : okCV m_HE_implement 75 m_Df_addInterface kDf 1 := ⟨Or.inl w_294, mk_Df_addInterface, ⟨w_295, w_296⟩, by decide +kernel, ⟨_, rfl, rfl⟩, by decide +kernel⟩
theorem k_HE_field_79 : okCV m_HE_field 79 m_Df_addField kDf 3 := ⟨Or.inl w_302, mk_Df_addField, ⟨w_303, w_304⟩, by decide +kernel, ⟨_, rfl, rfl⟩, by decide +kernel⟩
theorem k_HE_method_83 : okCV m_HE_method 83 m_Df_addMethod kDf 2 := ⟨Or.inl w_310, mk_Df_addMethod, ⟨w_311, w_312⟩, by decide +kernel, ⟨_, rfl, rfl⟩, by decide +kernel⟩
theorem k_HE_choose_100 : okCV m_HE_choose 100 m_Cd_clear kCd 0 := ⟨Or.inl w_322, mk_Cd_clear, ⟨w_315, w_316⟩, by decide +kernel, ⟨_, rfl, rfl⟩, by decide +kernel⟩
theorem k_HE_code_103 : okCV m_HE_code 103 m_Cd_add kCd 3 := ⟨Or.inl w_327, mk_Cd_add, ⟨w_328, w_329⟩, by decide +kernel, ⟨_, rfl, rfl⟩, by decide +kernel⟩
theorem k_HE_load_106 : okCV m_HE_load 106 m_Tr_take kTr 2 := ⟨Or.inl w_335, mk_Tr_take, ⟨w_336, w_337⟩, by decide +kernel, ⟨_, rfl, rfl⟩, by decide +kernel⟩
theorem k_HE_load_110 : okCV m_HE_load 110 m_Ch_treat kCh 1 := ⟨Or.inl w_340, mk_Ch_treat, ⟨w_341, w_342⟩, by decide +kernel, ⟨_, rfl, rfl⟩, by decide +kernel⟩
theorem k_HE_load_117 : okCS m_HE_load 117 m_Ru_firstBrokenAlone 2 := ⟨Or.inl w_373, mk_Ru_firstBrokenAlone, w_374, by decide +kernel, by decide +kernel⟩
theorem k_HE_load_123 : okCS m_HE_load 123 m_HE_isClass 1 := ⟨Or.inl w_414, mk_HE_isClass, w_415, by decide +kernel, by decide +kernel⟩
theorem k_HE_load_58 : okCV m_HE_load 58 m_Sh_find kSh 1 := ⟨Or.inl w_266, mk_Sh_find, ⟨w_267, w_268⟩, by decide +kernel, ⟨_, rfl, rfl⟩, by decide +kernel⟩
theorem k_HE_load_126 : okCV m_HE_load 126 m_Sh_add kSh 2 := ⟨Or.inl w_417, mk_Sh_add, ⟨w_418, w_419⟩, by decide +kernel, ⟨_, rfl, rfl⟩, by decide +kernel⟩
theorem k_HE_transformer_123 : okCS m_HE_transformer 123 m_HE_isClass 1 := ⟨Or.inl w_414, mk_HE_isClass, w_415, by decide +kernel, by decide +kernel⟩
theorem k_HE_transformer_129 : okCV m_HE_transformer 129 m_Ch_put kCh 4 := ⟨Or.inl w_456, mk_Ch_put, ⟨w_457, w_458⟩, by decide +kernel, ⟨_, rfl, rfl⟩, by decide +kernel⟩
theorem k_HE_remove_133 : okCV m_HE_remove 133 m_Ch_free kCh 1 := ⟨Or.inl w_464, mk_Ch_free, ⟨w_465, w_466⟩, by decide +kernel, ⟨_, rfl, rfl⟩, by decide +kernel⟩
theorem k_HE_queue_58 : okCV m_HE_queue 58 m_Sh_find kSh 1 := ⟨Or.inl w_266, mk_Sh_find, ⟨w_267, w_268⟩, by decide +kernel, ⟨_, rfl, rfl⟩, by decide +kernel⟩
theorem k_HE_queue_136 : okCV m_HE_queue 136 m_HE_isInBatch kHE 1 := ⟨Or.inl w_472, mk_HE_isInBatch, ⟨w_474, ws_HE_isInBatch⟩, by decide +kernel, ⟨_, rfl, rfl⟩, by decide +kernel⟩
theorem k_HE_queue_106 : okCV m_HE_queue 106 m_Tr_take kTr 2 := ⟨Or.inl w_335, mk_Tr_take, ⟨w_336, w_337⟩, by decide +kernel, ⟨_, rfl, rfl⟩, by decide +kernel⟩
theorem k_HE_swap_139 : okCV m_HE_swap 139 m_HE_firstBrokenOfBatch kHE 0 := ⟨Or.inl w_480, mk_HE_firstBrokenOfBatch, ⟨w_482, ws_HE_firstBrokenOfBatch⟩, by decide +kernel, ⟨_, rfl, rfl⟩, by decide +kernel⟩
theorem k_HE_swap_143 : okCV m_HE_swap 143 m_HE_installBatch kHE 0 := ⟨Or.inl w_512, mk_HE_installBatch, ⟨w_514, ws_HE_installBatch⟩, by decide +kernel, ⟨_, rfl, rfl⟩, by decide +kernel⟩
theorem k_HE_repeat_58 : okCV m_HE_repeat 58 m_Sh_find kSh 1 := ⟨Or.inl w_266, mk_Sh_find, ⟨w_267, w_268⟩, by decide +kernel, ⟨_, rfl, rfl⟩, by decide +kernel⟩
theorem k_HE_repeat_106 : okCV m_HE_repeat 106 m_Tr_take kTr 2 := ⟨Or.inl w_335, mk_Tr_take, ⟨w_336, w_337⟩, by decide +kernel, ⟨_, rfl, rfl⟩, by decide +kernel⟩
theorem k_HE_repeat_149 : okCV m_HE_repeat 149 m_Ch_change kCh 3 := ⟨Or.inl w_521, mk_Ch_change, ⟨w_345, w_346⟩, by decide +kernel, ⟨_, rfl, rfl⟩, by decide +kernel⟩
theorem k_HE_repeat_153 : okCS m_HE_repeat 153 m_Ru_firstBroken 4 := ⟨Or.inl w_484, mk_Ru_firstBroken, w_485, by decide +kernel, by decide +kernel⟩
theorem k_HE_repeat_157 : okCV m_HE_repeat 157 m_Lc_addEdition kLc 1 := ⟨Or.inl w_516, mk_Lc_addEdition, ⟨w_447, w_448⟩, by decide +kernel, ⟨_, rfl, rfl⟩, by decide +kernel⟩
theorem k_HE_start_160 : okCS m_HE_start 160 m_HE_isThread 1 := ⟨Or.inl w_526, mk_HE_isThread, w_527, by decide +kernel, by decide +kernel⟩
theorem k_HE_start_166 : okCV m_HE_start 166 m_Cl_enter kCl 3 := ⟨Or.inl w_529, mk_Cl_enter, ⟨w_530, w_531⟩, by decide +kernel, ⟨_, rfl, rfl⟩, by decide +kernel⟩
theorem k_HE_step_160 : okCS m_HE_step 160 m_HE_isThread 1 := ⟨Or.inl w_526, mk_HE_isThread, w_527, by decide +kernel, by decide +kernel⟩
theorem k_HE_step_170 : okCV m_HE_step 170 m_Cl_advance kCl 1 := ⟨Or.inl w_544, mk_Cl_advance, ⟨w_545, w_546⟩, by decide +kernel, ⟨_, rfl, rfl⟩, by decide +kernel⟩
theorem k_HE_frame_174 : okCV m_HE_frame 174 m_HE_findFrame kHE 2 := ⟨Or.inl w_560, mk_HE_findFrame, ⟨w_562, ws_HE_findFrame⟩, by decide +kernel, ⟨_, rfl, rfl⟩, by decide +kernel⟩
theorem k_HE_result_160 : okCS m_HE_result 160 m_HE_isThread 1 := ⟨Or.inl w_526, mk_HE_isThread, w_527, by decide +kernel, by decide +kernel⟩
theorem k_HE_edition_58 : okCV m_HE_edition 58 m_Sh_find kSh 1 := ⟨Or.inl w_266, mk_Sh_find, ⟨w_267, w_268⟩, by decide +kernel, ⟨_, rfl, rfl⟩, by decide +kernel⟩
theorem k_HE_kept_58 : okCV m_HE_kept 58 m_Sh_find kSh 1 := ⟨Or.inl w_266, mk_Sh_find, ⟨w_267, w_268⟩, by decide +kernel, ⟨_, rfl, rfl⟩, by decide +kernel⟩
theorem k_HE_kept_174 : okCV m_HE_kept 174 m_HE_findFrame kHE 2 := ⟨Or.inl w_560, mk_HE_findFrame, ⟨w_562, ws_HE_findFrame⟩, by decide +kernel, ⟨_, rfl, rfl⟩, by decide +kernel⟩
theorem k_HE_kept_190 : okCV m_HE_kept 190 m_HE_isFirstOfItsEdition kHE 3 := ⟨Or.inl w_576, mk_HE_isFirstOfItsEdition, ⟨w_578, ws_HE_isFirstOfItsEdition⟩, by decide +kernel, ⟨_, rfl, rfl⟩, by decide +kernel⟩
theorem k_HE_firstBrokenOfBatch_58 : okCV m_HE_firstBrokenOfBatch 58 m_Sh_find kSh 1 := ⟨Or.inl w_266, mk_Sh_find, ⟨w_267, w_268⟩, by decide +kernel, ⟨_, rfl, rfl⟩, by decide +kernel⟩
theorem k_HE_firstBrokenOfBatch_110 : okCV m_HE_firstBrokenOfBatch 110 m_Ch_treat kCh 1 := ⟨Or.inl w_340, mk_Ch_treat, ⟨w_341, w_342⟩, by decide +kernel, ⟨_, rfl, rfl⟩, by decide +kernel⟩
theorem k_HE_firstBrokenOfBatch_153 : okCS m_HE_firstBrokenOfBatch 153 m_Ru_firstBroken 4 := ⟨Or.inl w_484, mk_Ru_firstBroken, w_485, by decide +kernel, by decide +kernel⟩
theorem k_HE_installBatch_58 : okCV m_HE_installBatch 58 m_Sh_find kSh 1 := ⟨Or.inl w_266, mk_Sh_find, ⟨w_267, w_268⟩, by decide +kernel, ⟨_, rfl, rfl⟩, by decide +kernel⟩
theorem k_HE_installBatch_157 : okCV m_HE_installBatch 157 m_Lc_addEdition kLc 1 := ⟨Or.inl w_516, mk_Lc_addEdition, ⟨w_447, w_448⟩, by decide +kernel, ⟨_, rfl, rfl⟩, by decide +kernel⟩
theorem k_HE_installBatch_67 : okCV m_HE_installBatch 67 m_Df_become kDf 1 := ⟨Or.inl w_270, mk_Df_become, ⟨w_271, w_272⟩, by decide +kernel, ⟨_, rfl, rfl⟩, by decide +kernel⟩
theorem k_HE_findFrame_160 : okCS m_HE_findFrame 160 m_HE_isThread 1 := ⟨Or.inl w_526, mk_HE_isThread, w_527, by decide +kernel, by decide +kernel⟩
theorem k_HE_isFirstOfItsEdition_174 : okCV m_HE_isFirstOfItsEdition 174 m_HE_findFrame kHE 2 := ⟨Or.inl w_560, mk_HE_findFrame, ⟨w_562, ws_HE_findFrame⟩, by decide +kernel, ⟨_, rfl, rfl⟩, by decide +kernel⟩
theorem k_Mo_init_66 : okCV m_Mo_init 66 m_Mo_blank kMo 0 := ⟨Or.inl w_586, mk_Mo_blank, ⟨w_587, w_588⟩, by decide +kernel, ⟨_, rfl, rfl⟩, by decide +kernel⟩
theorem k_Mo_transcribe_69 : okCV m_Mo_transcribe 69 m_Mo_get kMo 2 := ⟨Or.inl w_666, mk_Mo_get, ⟨w_668, ws_Mo_get⟩, by decide +kernel, ⟨_, rfl, rfl⟩, by decide +kernel⟩
theorem k_Mo_transcribe_73 : okCV m_Mo_transcribe 73 m_Mo_put kMo 3 := ⟨Or.inl w_590, mk_Mo_put, ⟨w_592, ws_Mo_put⟩, by decide +kernel, ⟨_, rfl, rfl⟩, by decide +kernel⟩
theorem k_Mo_blank_73 : okCV m_Mo_blank 73 m_Mo_put kMo 3 := ⟨Or.inl w_590, mk_Mo_put, ⟨w_592, ws_Mo_put⟩, by decide +kernel, ⟨_, rfl, rfl⟩, by decide +kernel⟩
theorem k_Mo_copy_77 : okCV m_Mo_copy 77 m_Mo_loaded kMo 1 := ⟨Or.inl w_658, mk_Mo_loaded, ⟨w_660, ws_Mo_loaded⟩, by decide +kernel, ⟨_, rfl, rfl⟩, by decide +kernel⟩
theorem k_Mo_copy_81 : okCV m_Mo_copy 81 m_Mo_transcribe kMo 2 := ⟨Or.inl w_662, mk_Mo_transcribe, ⟨w_664, ws_Mo_transcribe⟩, by decide +kernel, ⟨_, rfl, rfl⟩, by decide +kernel⟩
theorem k_Mo_set_73 : okCV m_Mo_set 73 m_Mo_put kMo 3 := ⟨Or.inl w_590, mk_Mo_put, ⟨w_592, ws_Mo_put⟩, by decide +kernel, ⟨_, rfl, rfl⟩, by decide +kernel⟩
theorem k_Mo_implement_69 : okCV m_Mo_implement 69 m_Mo_get kMo 2 := ⟨Or.inl w_666, mk_Mo_get, ⟨w_668, ws_Mo_get⟩, by decide +kernel, ⟨_, rfl, rfl⟩, by decide +kernel⟩
theorem k_Mo_implement_73 : okCV m_Mo_implement 73 m_Mo_put kMo 3 := ⟨Or.inl w_590, mk_Mo_put, ⟨w_592, ws_Mo_put⟩, by decide +kernel, ⟨_, rfl, rfl⟩, by decide +kernel⟩
theorem k_Mo_field_69 : okCV m_Mo_field 69 m_Mo_get kMo 2 := ⟨Or.inl w_666, mk_Mo_get, ⟨w_668, ws_Mo_get⟩, by decide +kernel, ⟨_, rfl, rfl⟩, by decide +kernel⟩
theorem k_Mo_field_73 : okCV m_Mo_field 73 m_Mo_put kMo 3 := ⟨Or.inl w_590, mk_Mo_put, ⟨w_592, ws_Mo_put⟩, by decide +kernel, ⟨_, rfl, rfl⟩, by decide +kernel⟩
theorem k_Mo_method_69 : okCV m_Mo_method 69 m_Mo_get kMo 2 := ⟨Or.inl w_666, mk_Mo_get, ⟨w_668, ws_Mo_get⟩, by decide +kernel, ⟨_, rfl, rfl⟩, by decide +kernel⟩
theorem k_Mo_method_85 : okCS m_Mo_method 85 m_Mo_methodAt 1 := ⟨Or.inl w_686, mk_Mo_methodAt, w_687, by decide +kernel, by decide +kernel⟩
theorem k_Mo_method_73 : okCV m_Mo_method 73 m_Mo_put kMo 3 := ⟨Or.inl w_590, mk_Mo_put, ⟨w_592, ws_Mo_put⟩, by decide +kernel, ⟨_, rfl, rfl⟩, by decide +kernel⟩
theorem k_Mo_choose_69 : okCV m_Mo_choose 69 m_Mo_get kMo 2 := ⟨Or.inl w_666, mk_Mo_get, ⟨w_668, ws_Mo_get⟩, by decide +kernel, ⟨_, rfl, rfl⟩, by decide +kernel⟩
theorem k_Mo_choose_85 : okCS m_Mo_choose 85 m_Mo_methodAt 1 := ⟨Or.inl w_686, mk_Mo_methodAt, w_687, by decide +kernel, by decide +kernel⟩
theorem k_Mo_choose_73 : okCV m_Mo_choose 73 m_Mo_put kMo 3 := ⟨Or.inl w_590, mk_Mo_put, ⟨w_592, ws_Mo_put⟩, by decide +kernel, ⟨_, rfl, rfl⟩, by decide +kernel⟩
theorem k_Mo_code_85 : okCS m_Mo_code 85 m_Mo_methodAt 1 := ⟨Or.inl w_686, mk_Mo_methodAt, w_687, by decide +kernel, by decide +kernel⟩
theorem k_Mo_code_69 : okCV m_Mo_code 69 m_Mo_get kMo 2 := ⟨Or.inl w_666, mk_Mo_get, ⟨w_668, ws_Mo_get⟩, by decide +kernel, ⟨_, rfl, rfl⟩, by decide +kernel⟩
theorem k_Mo_code_73 : okCV m_Mo_code 73 m_Mo_put kMo 3 := ⟨Or.inl w_590, mk_Mo_put, ⟨w_592, ws_Mo_put⟩, by decide +kernel, ⟨_, rfl, rfl⟩, by decide +kernel⟩
theorem k_Mo_find_69 : okCV m_Mo_find 69 m_Mo_get kMo 2 := ⟨Or.inl w_666, mk_Mo_get, ⟨w_668, ws_Mo_get⟩, by decide +kernel, ⟨_, rfl, rfl⟩, by decide +kernel⟩
theorem k_Mo_find_85 : okCS m_Mo_find 85 m_Mo_methodAt 1 := ⟨Or.inl w_686, mk_Mo_methodAt, w_687, by decide +kernel, by decide +kernel⟩
theorem k_Mo_change_69 : okCV m_Mo_change 69 m_Mo_get kMo 2 := ⟨Or.inl w_666, mk_Mo_get, ⟨w_668, ws_Mo_get⟩, by decide +kernel, ⟨_, rfl, rfl⟩, by decide +kernel⟩
theorem k_Mo_change_73 : okCV m_Mo_change 73 m_Mo_put kMo 3 := ⟨Or.inl w_590, mk_Mo_put, ⟨w_592, ws_Mo_put⟩, by decide +kernel, ⟨_, rfl, rfl⟩, by decide +kernel⟩
theorem k_Mo_change_89 : okCV m_Mo_change 89 m_Mo_find kMo 2 := ⟨Or.inl w_721, mk_Mo_find, ⟨w_723, ws_Mo_find⟩, by decide +kernel, ⟨_, rfl, rfl⟩, by decide +kernel⟩
theorem k_Mo_change_85 : okCS m_Mo_change 85 m_Mo_methodAt 1 := ⟨Or.inl w_686, mk_Mo_methodAt, w_687, by decide +kernel, by decide +kernel⟩
theorem k_Mo_changes_92 : okCV m_Mo_changes 92 m_Mo_change kMo 2 := ⟨Or.inl w_717, mk_Mo_change, ⟨w_719, ws_Mo_change⟩, by decide +kernel, ⟨_, rfl, rfl⟩, by decide +kernel⟩
theorem k_Mo_treat_95 : okCV m_Mo_treat 95 m_Mo_changes kMo 3 := ⟨Or.inl w_713, mk_Mo_changes, ⟨w_715, ws_Mo_changes⟩, by decide +kernel, ⟨_, rfl, rfl⟩, by decide +kernel⟩
theorem k_Mo_treat_81 : okCV m_Mo_treat 81 m_Mo_transcribe kMo 2 := ⟨Or.inl w_662, mk_Mo_transcribe, ⟨w_664, ws_Mo_transcribe⟩, by decide +kernel, ⟨_, rfl, rfl⟩, by decide +kernel⟩
theorem k_Mo_twice_69 : okCV m_Mo_twice 69 m_Mo_get kMo 2 := ⟨Or.inl w_666, mk_Mo_get, ⟨w_668, ws_Mo_get⟩, by decide +kernel, ⟨_, rfl, rfl⟩, by decide +kernel⟩
theorem k_Mo_strangeOp_69 : okCV m_Mo_strangeOp 69 m_Mo_get kMo 2 := ⟨Or.inl w_666, mk_Mo_get, ⟨w_668, ws_Mo_get⟩, by decide +kernel, ⟨_, rfl, rfl⟩, by decide +kernel⟩
theorem k_Mo_strangeOp_85 : okCS m_Mo_strangeOp 85 m_Mo_methodAt 1 := ⟨Or.inl w_686, mk_Mo_methodAt, w_687, by decide +kernel, by decide +kernel⟩
theorem k_Mo_circle_69 : okCV m_Mo_circle 69 m_Mo_get kMo 2 := ⟨Or.inl w_666, mk_Mo_get, ⟨w_668, ws_Mo_get⟩, by decide +kernel, ⟨_, rfl, rfl⟩, by decide +kernel⟩
theorem k_Mo_circle_77 : okCV m_Mo_circle 77 m_Mo_loaded kMo 1 := ⟨Or.inl w_658, mk_Mo_loaded, ⟨w_660, ws_Mo_loaded⟩, by decide +kernel, ⟨_, rfl, rfl⟩, by decide +kernel⟩
theorem k_Mo_callsNothing_69 : okCV m_Mo_callsNothing 69 m_Mo_get kMo 2 := ⟨Or.inl w_666, mk_Mo_get, ⟨w_668, ws_Mo_get⟩, by decide +kernel, ⟨_, rfl, rfl⟩, by decide +kernel⟩
theorem k_Mo_callsNothing_85 : okCS m_Mo_callsNothing 85 m_Mo_methodAt 1 := ⟨Or.inl w_686, mk_Mo_methodAt, w_687, by decide +kernel, by decide +kernel⟩
theorem k_Mo_callsNothing_89 : okCV m_Mo_callsNothing 89 m_Mo_find kMo 2 := ⟨Or.inl w_721, mk_Mo_find, ⟨w_723, ws_Mo_find⟩, by decide +kernel, ⟨_, rfl, rfl⟩, by decide +kernel⟩
theorem k_Mo_callsNothing_77 : okCV m_Mo_callsNothing 77 m_Mo_loaded kMo 1 := ⟨Or.inl w_658, mk_Mo_loaded, ⟨w_660, ws_Mo_loaded⟩, by decide +kernel, ⟨_, rfl, rfl⟩, by decide +kernel⟩
theorem k_Mo_plainRules_69 : okCV m_Mo_plainRules 69 m_Mo_get kMo 2 := ⟨Or.inl w_666, mk_Mo_get, ⟨w_668, ws_Mo_get⟩, by decide +kernel, ⟨_, rfl, rfl⟩, by decide +kernel⟩
theorem k_Mo_plainRules_99 : okCV m_Mo_plainRules 99 m_Mo_twice kMo 4 := ⟨Or.inl w_729, mk_Mo_twice, ⟨w_731, ws_Mo_twice⟩, by decide +kernel, ⟨_, rfl, rfl⟩, by decide +kernel⟩
theorem k_Mo_plainRules_103 : okCV m_Mo_plainRules 103 m_Mo_strangeOp kMo 1 := ⟨Or.inl w_733, mk_Mo_strangeOp, ⟨w_735, ws_Mo_strangeOp⟩, by decide +kernel, ⟨_, rfl, rfl⟩, by decide +kernel⟩
theorem k_Mo_plainRules_106 : okCV m_Mo_plainRules 106 m_Mo_circle kMo 1 := ⟨Or.inl w_737, mk_Mo_circle, ⟨w_739, ws_Mo_circle⟩, by decide +kernel, ⟨_, rfl, rfl⟩, by decide +kernel⟩
theorem k_Mo_plainRules_77 : okCV m_Mo_plainRules 77 m_Mo_loaded kMo 1 := ⟨Or.inl w_658, mk_Mo_loaded, ⟨w_660, ws_Mo_loaded⟩, by decide +kernel, ⟨_, rfl, rfl⟩, by decide +kernel⟩
theorem k_Mo_plainRules_109 : okCV m_Mo_plainRules 109 m_Mo_callsNothing kMo 1 := ⟨Or.inl w_741, mk_Mo_callsNothing, ⟨w_743, ws_Mo_callsNothing⟩, by decide +kernel, ⟨_, rfl, rfl⟩, by decide +kernel⟩
theorem k_Mo_otherInterfaces_69 : okCV m_Mo_otherInterfaces 69 m_Mo_get kMo 2 := ⟨Or.inl w_666, mk_Mo_get, ⟨w_668, ws_Mo_get⟩, by decide +kernel, ⟨_, rfl, rfl⟩, by decide +kernel⟩
theorem k_Mo_otherFields_69 : okCV m_Mo_otherFields 69 m_Mo_get kMo 2 := ⟨Or.inl w_666, mk_Mo_get, ⟨w_668, ws_Mo_get⟩, by decide +kernel, ⟨_, rfl, rfl⟩, by decide +kernel⟩
theorem k_Mo_moreMethods_69 : okCV m_Mo_moreMethods 69 m_Mo_get kMo 2 := ⟨Or.inl w_666, mk_Mo_get, ⟨w_668, ws_Mo_get⟩, by decide +kernel, ⟨_, rfl, rfl⟩, by decide +kernel⟩
theorem k_Mo_moreMethods_85 : okCS m_Mo_moreMethods 85 m_Mo_methodAt 1 := ⟨Or.inl w_686, mk_Mo_methodAt, w_687, by decide +kernel, by decide +kernel⟩
theorem k_Mo_moreMethods_89 : okCV m_Mo_moreMethods 89 m_Mo_find kMo 2 := ⟨Or.inl w_721, mk_Mo_find, ⟨w_723, ws_Mo_find⟩, by decide +kernel, ⟨_, rfl, rfl⟩, by decide +kernel⟩
theorem k_Mo_otherMethodFlags_69 : okCV m_Mo_otherMethodFlags 69 m_Mo_get kMo 2 := ⟨Or.inl w_666, mk_Mo_get, ⟨w_668, ws_Mo_get⟩, by decide +kernel, ⟨_, rfl, rfl⟩, by decide +kernel⟩
theorem k_Mo_otherMethodFlags_85 : okCS m_Mo_otherMethodFlags 85 m_Mo_methodAt 1 := ⟨Or.inl w_686, mk_Mo_methodAt, w_687, by decide +kernel, by decide +kernel⟩
theorem k_Mo_otherMethodFlags_89 : okCV m_Mo_otherMethodFlags 89 m_Mo_find kMo 2 := ⟨Or.inl w_721, mk_Mo_find, ⟨w_723, ws_Mo_find⟩, by decide +kernel, ⟨_, rfl, rfl⟩, by decide +kernel⟩
theorem k_Mo_rules_112 : okCV m_Mo_rules 112 m_Mo_plainRules kMo 1 := ⟨Or.inl w_725, mk_Mo_plainRules, ⟨w_727, ws_Mo_plainRules⟩, by decide +kernel, ⟨_, rfl, rfl⟩, by decide +kernel⟩
theorem k_Mo_rules_69 : okCV m_Mo_rules 69 m_Mo_get kMo 2 := ⟨Or.inl w_666, mk_Mo_get, ⟨w_668, ws_Mo_get⟩, by decide +kernel, ⟨_, rfl, rfl⟩, by decide +kernel⟩
theorem k_Mo_rules_115 : okCV m_Mo_rules 115 m_Mo_otherInterfaces kMo 2 := ⟨Or.inl w_769, mk_Mo_otherInterfaces, ⟨w_771, ws_Mo_otherInterfaces⟩, by decide +kernel, ⟨_, rfl, rfl⟩, by decide +kernel⟩
theorem k_Mo_rules_119 : okCV m_Mo_rules 119 m_Mo_otherFields kMo 2 := ⟨Or.inl w_773, mk_Mo_otherFields, ⟨w_775, ws_Mo_otherFields⟩, by decide +kernel, ⟨_, rfl, rfl⟩, by decide +kernel⟩
theorem k_Mo_rules_122 : okCV m_Mo_rules 122 m_Mo_moreMethods kMo 2 := ⟨Or.inl w_777, mk_Mo_moreMethods, ⟨w_779, ws_Mo_moreMethods⟩, by decide +kernel, ⟨_, rfl, rfl⟩, by decide +kernel⟩
theorem k_Mo_rules_125 : okCV m_Mo_rules 125 m_Mo_otherMethodFlags kMo 2 := ⟨Or.inl w_781, mk_Mo_otherMethodFlags, ⟨w_783, ws_Mo_otherMethodFlags⟩, by decide +kernel, ⟨_, rfl, rfl⟩, by decide +kernel⟩
theorem k_Mo_inUse_128 : okCV m_Mo_inUse 128 m_Mo_inFrames kMo 1 := ⟨Or.inl w_753, mk_Mo_inFrames, ⟨w_755, ws_Mo_inFrames⟩, by decide +kernel, ⟨_, rfl, rfl⟩, by decide +kernel⟩
theorem k_Mo_renew_131 : okCV m_Mo_renew 131 m_Mo_inUse kMo 1 := ⟨Or.inl w_749, mk_Mo_inUse, ⟨w_751, ws_Mo_inUse⟩, by decide +kernel, ⟨_, rfl, rfl⟩, by decide +kernel⟩
theorem k_Mo_renew_81 : okCV m_Mo_renew 81 m_Mo_transcribe kMo 2 := ⟨Or.inl w_662, mk_Mo_transcribe, ⟨w_664, ws_Mo_transcribe⟩, by decide +kernel, ⟨_, rfl, rfl⟩, by decide +kernel⟩
theorem k_Mo_load_81 : okCV m_Mo_load 81 m_Mo_transcribe kMo 2 := ⟨Or.inl w_662, mk_Mo_transcribe, ⟨w_664, ws_Mo_transcribe⟩, by decide +kernel, ⟨_, rfl, rfl⟩, by decide +kernel⟩
theorem k_Mo_load_69 : okCV m_Mo_load 69 m_Mo_get kMo 2 := ⟨Or.inl w_666, mk_Mo_get, ⟨w_668, ws_Mo_get⟩, by decide +kernel, ⟨_, rfl, rfl⟩, by decide +kernel⟩
theorem k_Mo_load_134 : okCV m_Mo_load 134 m_Mo_treat kMo 3 := ⟨Or.inl w_709, mk_Mo_treat, ⟨w_711, ws_Mo_treat⟩, by decide +kernel, ⟨_, rfl, rfl⟩, by decide +kernel⟩
theorem k_Mo_load_112 : okCV m_Mo_load 112 m_Mo_plainRules kMo 1 := ⟨Or.inl w_725, mk_Mo_plainRules, ⟨w_727, ws_Mo_plainRules⟩, by decide +kernel, ⟨_, rfl, rfl⟩, by decide +kernel⟩
theorem k_Mo_load_77 : okCV m_Mo_load 77 m_Mo_loaded kMo 1 := ⟨Or.inl w_658, mk_Mo_loaded, ⟨w_660, ws_Mo_loaded⟩, by decide +kernel, ⟨_, rfl, rfl⟩, by decide +kernel⟩
theorem k_Mo_load_137 : okCV m_Mo_load 137 m_Mo_renew kMo 2 := ⟨Or.inl w_745, mk_Mo_renew, ⟨w_747, ws_Mo_renew⟩, by decide +kernel, ⟨_, rfl, rfl⟩, by decide +kernel⟩
theorem k_Mo_queue_77 : okCV m_Mo_queue 77 m_Mo_loaded kMo 1 := ⟨Or.inl w_658, mk_Mo_loaded, ⟨w_660, ws_Mo_loaded⟩, by decide +kernel, ⟨_, rfl, rfl⟩, by decide +kernel⟩
theorem k_Mo_queue_81 : okCV m_Mo_queue 81 m_Mo_transcribe kMo 2 := ⟨Or.inl w_662, mk_Mo_transcribe, ⟨w_664, ws_Mo_transcribe⟩, by decide +kernel, ⟨_, rfl, rfl⟩, by decide +kernel⟩
theorem k_Mo_swap_81 : okCV m_Mo_swap 81 m_Mo_transcribe kMo 2 := ⟨Or.inl w_662, mk_Mo_transcribe, ⟨w_664, ws_Mo_transcribe⟩, by decide +kernel, ⟨_, rfl, rfl⟩, by decide +kernel⟩
theorem k_Mo_swap_134 : okCV m_Mo_swap 134 m_Mo_treat kMo 3 := ⟨Or.inl w_709, mk_Mo_treat, ⟨w_711, ws_Mo_treat⟩, by decide +kernel, ⟨_, rfl, rfl⟩, by decide +kernel⟩
theorem k_Mo_swap_143 : okCV m_Mo_swap 143 m_Mo_rules kMo 2 := ⟨Or.inl w_765, mk_Mo_rules, ⟨w_767, ws_Mo_rules⟩, by decide +kernel, ⟨_, rfl, rfl⟩, by decide +kernel⟩
theorem k_Mo_swap_137 : okCV m_Mo_swap 137 m_Mo_renew kMo 2 := ⟨Or.inl w_745, mk_Mo_renew, ⟨w_747, ws_Mo_renew⟩, by decide +kernel, ⟨_, rfl, rfl⟩, by decide +kernel⟩
theorem k_Mo_repeat_77 : okCV m_Mo_repeat 77 m_Mo_loaded kMo 1 := ⟨Or.inl w_658, mk_Mo_loaded, ⟨w_660, ws_Mo_loaded⟩, by decide +kernel, ⟨_, rfl, rfl⟩, by decide +kernel⟩
theorem k_Mo_repeat_81 : okCV m_Mo_repeat 81 m_Mo_transcribe kMo 2 := ⟨Or.inl w_662, mk_Mo_transcribe, ⟨w_664, ws_Mo_transcribe⟩, by decide +kernel, ⟨_, rfl, rfl⟩, by decide +kernel⟩
theorem k_Mo_repeat_95 : okCV m_Mo_repeat 95 m_Mo_changes kMo 3 := ⟨Or.inl w_713, mk_Mo_changes, ⟨w_715, ws_Mo_changes⟩, by decide +kernel, ⟨_, rfl, rfl⟩, by decide +kernel⟩
theorem k_Mo_repeat_143 : okCV m_Mo_repeat 143 m_Mo_rules kMo 2 := ⟨Or.inl w_765, mk_Mo_rules, ⟨w_767, ws_Mo_rules⟩, by decide +kernel, ⟨_, rfl, rfl⟩, by decide +kernel⟩
theorem k_Mo_repeat_137 : okCV m_Mo_repeat 137 m_Mo_renew kMo 2 := ⟨Or.inl w_745, mk_Mo_renew, ⟨w_747, ws_Mo_renew⟩, by decide +kernel, ⟨_, rfl, rfl⟩, by decide +kernel⟩
theorem k_Mo_push_89 : okCV m_Mo_push 89 m_Mo_find kMo 2 := ⟨Or.inl w_721, mk_Mo_find, ⟨w_723, ws_Mo_find⟩, by decide +kernel, ⟨_, rfl, rfl⟩, by decide +kernel⟩
theorem k_Mo_start_146 : okCS m_Mo_start 146 m_Mo_isThread 1 := ⟨Or.inl w_793, mk_Mo_isThread, w_794, by decide +kernel, by decide +kernel⟩
theorem k_Mo_start_77 : okCV m_Mo_start 77 m_Mo_loaded kMo 1 := ⟨Or.inl w_658, mk_Mo_loaded, ⟨w_660, ws_Mo_loaded⟩, by decide +kernel, ⟨_, rfl, rfl⟩, by decide +kernel⟩
theorem k_Mo_start_89 : okCV m_Mo_start 89 m_Mo_find kMo 2 := ⟨Or.inl w_721, mk_Mo_find, ⟨w_723, ws_Mo_find⟩, by decide +kernel, ⟨_, rfl, rfl⟩, by decide +kernel⟩
theorem k_Mo_start_149 : okCV m_Mo_start 149 m_Mo_push kMo 3 := ⟨Or.inl w_796, mk_Mo_push, ⟨w_798, ws_Mo_push⟩, by decide +kernel, ⟨_, rfl, rfl⟩, by decide +kernel⟩
theorem k_Mo_once_69 : okCV m_Mo_once 69 m_Mo_get kMo 2 := ⟨Or.inl w_666, mk_Mo_get, ⟨w_668, ws_Mo_get⟩, by decide +kernel, ⟨_, rfl, rfl⟩, by decide +kernel⟩
theorem k_Mo_once_149 : okCV m_Mo_once 149 m_Mo_push kMo 3 := ⟨Or.inl w_796, mk_Mo_push, ⟨w_798, ws_Mo_push⟩, by decide +kernel, ⟨_, rfl, rfl⟩, by decide +kernel⟩
theorem k_Mo_step_146 : okCS m_Mo_step 146 m_Mo_isThread 1 := ⟨Or.inl w_793, mk_Mo_isThread, w_794, by decide +kernel, by decide +kernel⟩
theorem k_Mo_step_152 : okCV m_Mo_step 152 m_Mo_once kMo 1 := ⟨Or.inl w_804, mk_Mo_once, ⟨w_806, ws_Mo_once⟩, by decide +kernel, ⟨_, rfl, rfl⟩, by decide +kernel⟩
theorem k_Mo_frame_146 : okCS m_Mo_frame 146 m_Mo_isThread 1 := ⟨Or.inl w_793, mk_Mo_isThread, w_794, by decide +kernel, by decide +kernel⟩
theorem k_Mo_result_146 : okCS m_Mo_result 146 m_Mo_isThread 1 := ⟨Or.inl w_793, mk_Mo_isThread, w_794, by decide +kernel, by decide +kernel⟩
theorem k_Mo_edition_77 : okCV m_Mo_edition 77 m_Mo_loaded kMo 1 := ⟨Or.inl w_658, mk_Mo_loaded, ⟨w_660, ws_Mo_loaded⟩, by decide +kernel, ⟨_, rfl, rfl⟩, by decide +kernel⟩
theorem k_Mo_kept_77 : okCV m_Mo_kept 77 m_Mo_loaded kMo 1 := ⟨Or.inl w_658, mk_Mo_loaded, ⟨w_660, ws_Mo_loaded⟩, by decide +kernel, ⟨_, rfl, rfl⟩, by decide +kernel⟩
theorem k_Mo_kept_131 : okCV m_Mo_kept 131 m_Mo_inUse kMo 1 := ⟨Or.inl w_749, mk_Mo_inUse, ⟨w_751, ws_Mo_inUse⟩, by decide +kernel, ⟨_, rfl, rfl⟩, by decide +kernel⟩
theorem k_Cl_init_24 : okCI m_Cl_init 24 m_Fr_init 0 := ⟨Or.inr ⟨"HotEditions", w_192⟩, mk_Fr_init, ⟨w_193, rfl, rfl⟩, by decide +kernel, by decide +kernel⟩
theorem k_Cl_enter_25 : okCV m_Cl_enter 25 m_Sh_find kSh 1 := ⟨Or.inl w_533, mk_Sh_find, ⟨w_267, w_268⟩, by decide +kernel, ⟨_, rfl, rfl⟩, by decide +kernel⟩
theorem k_Cl_enter_37 : okCV m_Cl_enter 37 m_Df_findMethod kDf 1 := ⟨Or.inl w_534, mk_Df_findMethod, ⟨w_365, w_366⟩, by decide +kernel, ⟨_, rfl, rfl⟩, by decide +kernel⟩
theorem k_Cl_enter_52 : okCV m_Cl_enter 52 m_Fr_begin kFr 3 := ⟨Or.inl w_535, mk_Fr_begin, ⟨w_536, w_537⟩, by decide +kernel, ⟨_, rfl, rfl⟩, by decide +kernel⟩
theorem k_Cl_advance_68 : okCV m_Cl_advance 68 m_Cl_leave kCl 1 := ⟨Or.inl w_548, mk_Cl_leave, ⟨w_550, ws_Cl_leave⟩, by decide +kernel, ⟨_, rfl, rfl⟩, by decide +kernel⟩
theorem k_Cl_advance_72 : okCV m_Cl_advance 72 m_Cd_opAt kCd 1 := ⟨Or.inl w_552, mk_Cd_opAt, ⟨w_361, w_362⟩, by decide +kernel, ⟨_, rfl, rfl⟩, by decide +kernel⟩
theorem k_Cl_advance_76 : okCV m_Cl_advance 76 m_Cd_firstOperandAt kCd 1 := ⟨Or.inl w_553, mk_Cd_firstOperandAt, ⟨w_403, w_404⟩, by decide +kernel, ⟨_, rfl, rfl⟩, by decide +kernel⟩
theorem k_Cl_advance_79 : okCV m_Cl_advance 79 m_Cd_secondOperandAt kCd 1 := ⟨Or.inl w_554, mk_Cd_secondOperandAt, ⟨w_407, w_408⟩, by decide +kernel, ⟨_, rfl, rfl⟩, by decide +kernel⟩
theorem k_Cl_advance_82 : okCV m_Cl_advance 82 m_Cl_enter kCl 3 := ⟨Or.inl w_555, mk_Cl_enter, ⟨w_530, w_531⟩, by decide +kernel, ⟨_, rfl, rfl⟩, by decide +kernel⟩
theorem k_Ch_init_17 : okCI m_Ch_init 17 m_Tf_init 0 := ⟨Or.inr ⟨"HotEditions", w_126⟩, mk_Tf_init, ⟨w_127, rfl, rfl⟩, by decide +kernel, by decide +kernel⟩
theorem k_Ch_treat_44 : okCV m_Ch_treat 44 m_Ch_change kCh 3 := ⟨Or.inl w_344, mk_Ch_change, ⟨w_345, w_346⟩, by decide +kernel, ⟨_, rfl, rfl⟩, by decide +kernel⟩
theorem k_Ch_treat_51 : okCV m_Ch_treat 51 m_Df_become kDf 1 := ⟨Or.inl w_372, mk_Df_become, ⟨w_271, w_272⟩, by decide +kernel, ⟨_, rfl, rfl⟩, by decide +kernel⟩
theorem k_Ch_change_57 : okCV m_Ch_change 57 m_Tf_isFor kTf 1 := ⟨Or.inl w_348, mk_Tf_isFor, ⟨w_349, w_350⟩, by decide +kernel, ⟨_, rfl, rfl⟩, by decide +kernel⟩
theorem k_Ch_change_61 : okCV m_Ch_change 61 m_Tf_change kTf 1 := ⟨Or.inl w_352, mk_Tf_change, ⟨w_353, w_354⟩, by decide +kernel, ⟨_, rfl, rfl⟩, by decide +kernel⟩
theorem k_Cd_raiseAdditions_25 : okCV m_Cd_raiseAdditions 25 m_Cd_opAt kCd 1 := ⟨Or.inl w_360, mk_Cd_opAt, ⟨w_361, w_362⟩, by decide +kernel, ⟨_, rfl, rfl⟩, by decide +kernel⟩
theorem k_Df_init_37 : okCI m_Df_init 37 m_Mt_init 0 := ⟨Or.inr ⟨"HotEditions", w_32⟩, mk_Mt_init, ⟨w_33, rfl, rfl⟩, by decide +kernel, by decide +kernel⟩
theorem k_Df_init_38 : okCV m_Df_init 38 m_Df_clear kDf 0 := ⟨Or.inl w_70, mk_Df_clear, ⟨w_71, w_72⟩, by decide +kernel, ⟨_, rfl, rfl⟩, by decide +kernel⟩
theorem k_Df_become_47 : okCV m_Df_become 47 m_Mt_become kMt 1 := ⟨Or.inl w_277, mk_Mt_become, ⟨w_278, w_279⟩, by decide +kernel, ⟨_, rfl, rfl⟩, by decide +kernel⟩
theorem k_Df_addMethod_61 : okCV m_Df_addMethod 61 m_Cd_clear kCd 0 := ⟨Or.inl w_314, mk_Cd_clear, ⟨w_315, w_316⟩, by decide +kernel, ⟨_, rfl, rfl⟩, by decide +kernel⟩
theorem k_Df_hasInterfacesOf_64 : okCV m_Df_hasInterfacesOf 64 m_Df_hasInterface kDf 1 := ⟨Or.inl w_495, mk_Df_hasInterface, ⟨w_496, w_497⟩, by decide +kernel, ⟨_, rfl, rfl⟩, by decide +kernel⟩
theorem k_Df_hasMethodNamesOf_68 : okCV m_Df_hasMethodNamesOf 68 m_Df_findMethod kDf 1 := ⟨Or.inl w_507, mk_Df_findMethod, ⟨w_365, w_366⟩, by decide +kernel, ⟨_, rfl, rfl⟩, by decide +kernel⟩
theorem k_Df_hasMethodFlagsOf_68 : okCV m_Df_hasMethodFlagsOf 68 m_Df_findMethod kDf 1 := ⟨Or.inl w_507, mk_Df_findMethod, ⟨w_365, w_366⟩, by decide +kernel, ⟨_, rfl, rfl⟩, by decide +kernel⟩
theorem k_Fr_init_20 : okCI m_Fr_init 20 m_Cd_init 0 := ⟨Or.inr ⟨"HotEditions", w_197⟩, mk_Cd_init, ⟨w_39, rfl, rfl⟩, by decide +kernel, by decide +kernel⟩
theorem k_Fr_begin_31 : okCV m_Fr_begin 31 m_Cd_become kCd 1 := ⟨Or.inl w_539, mk_Cd_become, ⟨w_282, w_283⟩, by decide +kernel, ⟨_, rfl, rfl⟩, by decide +kernel⟩
theorem k_Lc_init_15 : okCI m_Lc_init 15 m_Df_init 0 := ⟨Or.inl w_428, mk_Df_init, ⟨w_26, rfl, rfl⟩, by decide +kernel, by decide +kernel⟩
theorem k_Lc_addEdition_23 : okCV m_Lc_addEdition 23 m_Df_become kDf 1 := ⟨Or.inl w_450, mk_Df_become, ⟨w_271, w_272⟩, by decide +kernel, ⟨_, rfl, rfl⟩, by decide +kernel⟩
theorem k_Mt_init_18 : okCI m_Mt_init 18 m_Cd_init 0 := ⟨Or.inr ⟨"HotEditions", w_38⟩, mk_Cd_init, ⟨w_39, rfl, rfl⟩, by decide +kernel, by decide +kernel⟩
theorem k_Mt_become_23 : okCV m_Mt_become 23 m_Cd_become kCd 1 := ⟨Or.inl w_281, mk_Cd_become, ⟨w_282, w_283⟩, by decide +kernel, ⟨_, rfl, rfl⟩, by decide +kernel⟩
theorem k_Ru_firstBroken_9 : okCS m_Ru_firstBroken 9 m_Ru_firstBrokenAlone 2 := ⟨Or.inl w_487, mk_Ru_firstBrokenAlone, w_374, by decide +kernel, by decide +kernel⟩
theorem k_Ru_firstBroken_15 : okCS m_Ru_firstBroken 15 m_Ru_firstBrokenBeside 3 := ⟨Or.inl w_488, mk_Ru_firstBrokenBeside, w_489, by decide +kernel, by decide +kernel⟩
theorem k_Ru_firstBrokenAlone_25 : okCV m_Ru_firstBrokenAlone 25 m_Df_hasEqualInterfaces kDf 0 := ⟨Or.inl w_376, mk_Df_hasEqualInterfaces, ⟨w_377, w_378⟩, by decide +kernel, ⟨_, rfl, rfl⟩, by decide +kernel⟩
theorem k_Ru_firstBrokenAlone_29 : okCV m_Ru_firstBrokenAlone 29 m_Df_hasFieldsOfOneName kDf 0 := ⟨Or.inl w_380, mk_Df_hasFieldsOfOneName, ⟨w_381, w_382⟩, by decide +kernel, ⟨_, rfl, rfl⟩, by decide +kernel⟩
theorem k_Ru_firstBrokenAlone_32 : okCV m_Ru_firstBrokenAlone 32 m_Df_hasMethodsOfOneName kDf 0 := ⟨Or.inl w_384, mk_Df_hasMethodsOfOneName, ⟨w_385, w_386⟩, by decide +kernel, ⟨_, rfl, rfl⟩, by decide +kernel⟩
theorem k_Ru_firstBrokenAlone_35 : okCS m_Ru_firstBrokenAlone 35 m_Ru_hasUnknownOp 1 := ⟨Or.inl w_388, mk_Ru_hasUnknownOp, w_389, by decide +kernel, by decide +kernel⟩
theorem k_Ru_firstBrokenAlone_39 : okCS m_Ru_firstBrokenAlone 39 m_Ru_meetsItselfAbove 2 := ⟨Or.inl w_392, mk_Ru_meetsItselfAbove, w_393, by decide +kernel, by decide +kernel⟩
theorem k_Ru_firstBrokenAlone_43 : okCS m_Ru_firstBrokenAlone 43 m_Ru_lacksSuper 2 := ⟨Or.inl w_396, mk_Ru_lacksSuper, w_397, by decide +kernel, by decide +kernel⟩
theorem k_Ru_firstBrokenAlone_46 : okCS m_Ru_firstBrokenAlone 46 m_Ru_lacksCalledMethod 2 := ⟨Or.inl w_399, mk_Ru_lacksCalledMethod, w_400, by decide +kernel, by decide +kernel⟩
theorem k_Ru_firstBrokenBeside_49 : okCV m_Ru_firstBrokenBeside 49 m_Df_hasInterfacesOf kDf 1 := ⟨Or.inl w_491, mk_Df_hasInterfacesOf, ⟨w_492, w_493⟩, by decide +kernel, ⟨_, rfl, rfl⟩, by decide +kernel⟩
theorem k_Ru_firstBrokenBeside_52 : okCV m_Ru_firstBrokenBeside 52 m_Df_hasFieldsOf kDf 1 := ⟨Or.inl w_499, mk_Df_hasFieldsOf, ⟨w_500, w_501⟩, by decide +kernel, ⟨_, rfl, rfl⟩, by decide +kernel⟩
theorem k_Ru_firstBrokenBeside_55 : okCV m_Ru_firstBrokenBeside 55 m_Df_hasMethodNamesOf kDf 1 := ⟨Or.inl w_503, mk_Df_hasMethodNamesOf, ⟨w_504, w_505⟩, by decide +kernel, ⟨_, rfl, rfl⟩, by decide +kernel⟩
theorem k_Ru_firstBrokenBeside_58 : okCV m_Ru_firstBrokenBeside 58 m_Df_hasMethodFlagsOf kDf 1 := ⟨Or.inl w_508, mk_Df_hasMethodFlagsOf, ⟨w_509, w_510⟩, by decide +kernel, ⟨_, rfl, rfl⟩, by decide +kernel⟩
theorem k_Ru_hasUnknownOp_80 : okCV m_Ru_hasUnknownOp 80 m_Cd_opAt kCd 1 := ⟨Or.inl w_391, mk_Cd_opAt, ⟨w_361, w_362⟩, by decide +kernel, ⟨_, rfl, rfl⟩, by decide +kernel⟩
theorem k_Ru_meetsItselfAbove_84 : okCV m_Ru_meetsItselfAbove 84 m_Sh_find kSh 1 := ⟨Or.inl w_395, mk_Sh_find, ⟨w_267, w_268⟩, by decide +kernel, ⟨_, rfl, rfl⟩, by decide +kernel⟩
theorem k_Ru_lacksSuper_84 : okCV m_Ru_lacksSuper 84 m_Sh_find kSh 1 := ⟨Or.inl w_395, mk_Sh_find, ⟨w_267, w_268⟩, by decide +kernel, ⟨_, rfl, rfl⟩, by decide +kernel⟩
theorem k_Ru_lacksCalledMethod_80 : okCV m_Ru_lacksCalledMethod 80 m_Cd_opAt kCd 1 := ⟨Or.inl w_391, mk_Cd_opAt, ⟨w_361, w_362⟩, by decide +kernel, ⟨_, rfl, rfl⟩, by decide +kernel⟩
theorem k_Ru_lacksCalledMethod_96 : okCV m_Ru_lacksCalledMethod 96 m_Cd_firstOperandAt kCd 1 := ⟨Or.inl w_402, mk_Cd_firstOperandAt, ⟨w_403, w_404⟩, by decide +kernel, ⟨_, rfl, rfl⟩, by decide +kernel⟩
theorem k_Ru_lacksCalledMethod_99 : okCV m_Ru_lacksCalledMethod 99 m_Cd_secondOperandAt kCd 1 := ⟨Or.inl w_406, mk_Cd_secondOperandAt, ⟨w_407, w_408⟩, by decide +kernel, ⟨_, rfl, rfl⟩, by decide +kernel⟩
theorem k_Ru_lacksCalledMethod_102 : okCS m_Ru_lacksCalledMethod 102 m_Ru_isCallable 4 := ⟨Or.inl w_410, mk_Ru_isCallable, w_411, by decide +kernel, by decide +kernel⟩
theorem k_Ru_isCallable_106 : okCV m_Ru_isCallable 106 m_Df_findMethod kDf 1 := ⟨Or.inl w_413, mk_Df_findMethod, ⟨w_365, w_366⟩, by decide +kernel, ⟨_, rfl, rfl⟩, by decide +kernel⟩
theorem k_Ru_isCallable_84 : okCV m_Ru_isCallable 84 m_Sh_find kSh 1 := ⟨Or.inl w_395, mk_Sh_find, ⟨w_267, w_268⟩, by decide +kernel, ⟨_, rfl, rfl⟩, by decide +kernel⟩
theorem k_Sh_add_17 : okCS m_Sh_add 17 m_HE_isClass 1 := ⟨Or.inr ⟨"HotEditions", w_421⟩, mk_HE_isClass, w_415, by decide +kernel, by decide +kernel⟩
theorem k_Sh_add_21 : okCI m_Sh_add 21 m_Lc_init 0 := ⟨Or.inr ⟨"HotEditions", w_423⟩, mk_Lc_init, ⟨w_424, rfl, rfl⟩, by decide +kernel, by decide +kernel⟩
theorem k_Sh_add_28 : okCV m_Sh_add 28 m_Lc_addEdition kLc 1 := ⟨Or.inl w_446, mk_Lc_addEdition, ⟨w_447, w_448⟩, by decide +kernel, ⟨_, rfl, rfl⟩, by decide +kernel⟩
theorem k_Sh_add_36 : okCV m_Sh_add 36 m_Df_become kDf 1 := ⟨Or.inl w_451, mk_Df_become, ⟨w_271, w_272⟩, by decide +kernel, ⟨_, rfl, rfl⟩, by decide +kernel⟩
theorem k_Tf_change_43 : okCV m_Tf_change 43 m_Cd_raiseAdditions kCd 1 := ⟨Or.inl w_356, mk_Cd_raiseAdditions, ⟨w_357, w_358⟩, by decide +kernel, ⟨_, rfl, rfl⟩, by decide +kernel⟩
theorem k_Tf_change_53 : okCV m_Tf_change 53 m_Df_findMethod kDf 1 := ⟨Or.inl w_364, mk_Df_findMethod, ⟨w_365, w_366⟩, by decide +kernel, ⟨_, rfl, rfl⟩, by decide +kernel⟩
theorem k_Tf_change_57 : okCS m_Tf_change 57 m_Tf_emptyAllCode 1 := ⟨Or.inl w_368, mk_Tf_emptyAllCode, w_369, by decide +kernel, by decide +kernel⟩
theorem k_Tf_emptyAllCode_64 : okCV m_Tf_emptyAllCode 64 m_Cd_clear kCd 0 := ⟨Or.inl w_371, mk_Cd_clear, ⟨w_315, w_316⟩, by decide +kernel, ⟨_, rfl, rfl⟩, by decide +kernel⟩
theorem k_Tr_init_17 : okCI m_Tr_init 17 m_Df_init 0 := ⟨Or.inl w_163, mk_Df_init, ⟨w_26, rfl, rfl⟩, by decide +kernel, by decide +kernel⟩
theorem k_Tr_take_25 : okCV m_Tr_take 25 m_Df_become kDf 1 := ⟨Or.inl w_339, mk_Df_become, ⟨w_271, w_272⟩, by decide +kernel, ⟨_, rfl, rfl⟩, by decide +kernel⟩
theorem k_Lw_law_9 : okCI m_Lw_law 9 m_HE_init 0 := ⟨Or.inl w_17, mk_HE_init, ⟨w_18, rfl, rfl⟩, by decide +kernel, by decide +kernel⟩
theorem k_Lw_law_12 : okCI m_Lw_law 12 m_Mo_init 0 := ⟨Or.inl w_582, mk_Mo_init, ⟨w_583, rfl, rfl⟩, by decide +kernel, by decide +kernel⟩
theorem k_Lw_law_13 : okCV m_Lw_law 13 m_HE_blank kHE 0 := ⟨Or.inl w_257, mk_HE_blank, ⟨w_258, w_259⟩, by decide +kernel, ⟨_, rfl, rfl⟩, by decide +kernel⟩
theorem k_Lw_law_16 : okCV m_Lw_law 16 m_Mo_blank kMo 0 := ⟨Or.inl w_653, mk_Mo_blank, ⟨w_587, w_588⟩, by decide +kernel, ⟨_, rfl, rfl⟩, by decide +kernel⟩
theorem k_Lw_law_17 : okCV m_Lw_law 17 m_HE_copy kHE 1 := ⟨Or.inl w_262, mk_HE_copy, ⟨w_263, w_264⟩, by decide +kernel, ⟨_, rfl, rfl⟩, by decide +kernel⟩
theorem k_Lw_law_21 : okCV m_Lw_law 21 m_Mo_copy kMo 1 := ⟨Or.inl w_654, mk_Mo_copy, ⟨w_655, w_656⟩, by decide +kernel, ⟨_, rfl, rfl⟩, by decide +kernel⟩
theorem k_Lw_law_22 : okCV m_Lw_law 22 m_HE_set kHE 2 := ⟨Or.inl w_286, mk_HE_set, ⟨w_287, w_288⟩, by decide +kernel, ⟨_, rfl, rfl⟩, by decide +kernel⟩
theorem k_Lw_law_26 : okCV m_Lw_law 26 m_Mo_set kMo 2 := ⟨Or.inl w_670, mk_Mo_set, ⟨w_671, w_672⟩, by decide +kernel, ⟨_, rfl, rfl⟩, by decide +kernel⟩
theorem k_Lw_law_27 : okCV m_Lw_law 27 m_HE_implement kHE 1 := ⟨Or.inl w_290, mk_HE_implement, ⟨w_291, w_292⟩, by decide +kernel, ⟨_, rfl, rfl⟩, by decide +kernel⟩
theorem k_Lw_law_30 : okCV m_Lw_law 30 m_Mo_implement kMo 1 := ⟨Or.inl w_674, mk_Mo_implement, ⟨w_675, w_676⟩, by decide +kernel, ⟨_, rfl, rfl⟩, by decide +kernel⟩
theorem k_Lw_law_31 : okCV m_Lw_law 31 m_HE_field kHE 3 := ⟨Or.inl w_298, mk_HE_field, ⟨w_299, w_300⟩, by decide +kernel, ⟨_, rfl, rfl⟩, by decide +kernel⟩
theorem k_Lw_law_35 : okCV m_Lw_law 35 m_Mo_field kMo 3 := ⟨Or.inl w_678, mk_Mo_field, ⟨w_679, w_680⟩, by decide +kernel, ⟨_, rfl, rfl⟩, by decide +kernel⟩
theorem k_Lw_law_36 : okCV m_Lw_law 36 m_HE_method kHE 2 := ⟨Or.inl w_306, mk_HE_method, ⟨w_307, w_308⟩, by decide +kernel, ⟨_, rfl, rfl⟩, by decide +kernel⟩
theorem k_Lw_law_39 : okCV m_Lw_law 39 m_Mo_method kMo 2 := ⟨Or.inl w_682, mk_Mo_method, ⟨w_683, w_684⟩, by decide +kernel, ⟨_, rfl, rfl⟩, by decide +kernel⟩
theorem k_Lw_law_40 : okCV m_Lw_law 40 m_HE_choose kHE 1 := ⟨Or.inl w_318, mk_HE_choose, ⟨w_319, w_320⟩, by decide +kernel, ⟨_, rfl, rfl⟩, by decide +kernel⟩
theorem k_Lw_law_43 : okCV m_Lw_law 43 m_Mo_choose kMo 1 := ⟨Or.inl w_689, mk_Mo_choose, ⟨w_690, w_691⟩, by decide +kernel, ⟨_, rfl, rfl⟩, by decide +kernel⟩
theorem k_Lw_law_44 : okCV m_Lw_law 44 m_HE_code kHE 3 := ⟨Or.inl w_323, mk_HE_code, ⟨w_324, w_325⟩, by decide +kernel, ⟨_, rfl, rfl⟩, by decide +kernel⟩
theorem k_Lw_law_47 : okCV m_Lw_law 47 m_Mo_code kMo 3 := ⟨Or.inl w_693, mk_Mo_code, ⟨w_694, w_695⟩, by decide +kernel, ⟨_, rfl, rfl⟩, by decide +kernel⟩
theorem k_Lw_law_48 : okCV m_Lw_law 48 m_HE_load kHE 0 := ⟨Or.inl w_331, mk_HE_load, ⟨w_332, w_333⟩, by decide +kernel, ⟨_, rfl, rfl⟩, by decide +kernel⟩
theorem k_Lw_law_52 : okCV m_Lw_law 52 m_Mo_load kMo 0 := ⟨Or.inl w_705, mk_Mo_load, ⟨w_706, w_707⟩, by decide +kernel, ⟨_, rfl, rfl⟩, by decide +kernel⟩
theorem k_Lw_law_53 : okCV m_Lw_law 53 m_HE_transformer kHE 4 := ⟨Or.inl w_452, mk_HE_transformer, ⟨w_453, w_454⟩, by decide +kernel, ⟨_, rfl, rfl⟩, by decide +kernel⟩
theorem k_Lw_law_57 : okCV m_Lw_law 57 m_Mo_transformer kMo 4 := ⟨Or.inl w_697, mk_Mo_transformer, ⟨w_698, w_699⟩, by decide +kernel, ⟨_, rfl, rfl⟩, by decide +kernel⟩
theorem k_Lw_law_58 : okCV m_Lw_law 58 m_HE_remove kHE 1 := ⟨Or.inl w_460, mk_HE_remove, ⟨w_461, w_462⟩, by decide +kernel, ⟨_, rfl, rfl⟩, by decide +kernel⟩
theorem k_Lw_law_61 : okCV m_Lw_law 61 m_Mo_remove kMo 1 := ⟨Or.inl w_701, mk_Mo_remove, ⟨w_702, w_703⟩, by decide +kernel, ⟨_, rfl, rfl⟩, by decide +kernel⟩
theorem k_Lw_law_62 : okCV m_Lw_law 62 m_HE_queue kHE 1 := ⟨Or.inl w_468, mk_HE_queue, ⟨w_469, w_470⟩, by decide +kernel, ⟨_, rfl, rfl⟩, by decide +kernel⟩
theorem k_Lw_law_65 : okCV m_Lw_law 65 m_Mo_queue kMo 1 := ⟨Or.inl w_757, mk_Mo_queue, ⟨w_758, w_759⟩, by decide +kernel, ⟨_, rfl, rfl⟩, by decide +kernel⟩
theorem k_Lw_law_66 : okCV m_Lw_law 66 m_HE_swap kHE 0 := ⟨Or.inl w_476, mk_HE_swap, ⟨w_477, w_478⟩, by decide +kernel, ⟨_, rfl, rfl⟩, by decide +kernel⟩
theorem k_Lw_law_69 : okCV m_Lw_law 69 m_Mo_swap kMo 0 := ⟨Or.inl w_761, mk_Mo_swap, ⟨w_762, w_763⟩, by decide +kernel, ⟨_, rfl, rfl⟩, by decide +kernel⟩
theorem k_Lw_law_70 : okCV m_Lw_law 70 m_HE_repeat kHE 1 := ⟨Or.inl w_517, mk_HE_repeat, ⟨w_518, w_519⟩, by decide +kernel, ⟨_, rfl, rfl⟩, by decide +kernel⟩
theorem k_Lw_law_74 : okCV m_Lw_law 74 m_Mo_repeat kMo 1 := ⟨Or.inl w_785, mk_Mo_repeat, ⟨w_786, w_787⟩, by decide +kernel, ⟨_, rfl, rfl⟩, by decide +kernel⟩
theorem k_Lw_law_75 : okCV m_Lw_law 75 m_HE_start kHE 3 := ⟨Or.inl w_522, mk_HE_start, ⟨w_523, w_524⟩, by decide +kernel, ⟨_, rfl, rfl⟩, by decide +kernel⟩
theorem k_Lw_law_78 : okCV m_Lw_law 78 m_Mo_start kMo 3 := ⟨Or.inl w_789, mk_Mo_start, ⟨w_790, w_791⟩, by decide +kernel, ⟨_, rfl, rfl⟩, by decide +kernel⟩
theorem k_Lw_law_79 : okCV m_Lw_law 79 m_HE_step kHE 2 := ⟨Or.inl w_540, mk_HE_step, ⟨w_541, w_542⟩, by decide +kernel, ⟨_, rfl, rfl⟩, by decide +kernel⟩
theorem k_Lw_law_83 : okCV m_Lw_law 83 m_Mo_step kMo 2 := ⟨Or.inl w_800, mk_Mo_step, ⟨w_801, w_802⟩, by decide +kernel, ⟨_, rfl, rfl⟩, by decide +kernel⟩
theorem k_Lw_law_84 : okCV m_Lw_law 84 m_HE_frame kHE 2 := ⟨Or.inl w_556, mk_HE_frame, ⟨w_557, w_558⟩, by decide +kernel, ⟨_, rfl, rfl⟩, by decide +kernel⟩
theorem k_Lw_law_87 : okCV m_Lw_law 87 m_Mo_frame kMo 2 := ⟨Or.inl w_808, mk_Mo_frame, ⟨w_809, w_810⟩, by decide +kernel, ⟨_, rfl, rfl⟩, by decide +kernel⟩
theorem k_Lw_law_88 : okCV m_Lw_law 88 m_HE_result kHE 1 := ⟨Or.inl w_564, mk_HE_result, ⟨w_565, w_566⟩, by decide +kernel, ⟨_, rfl, rfl⟩, by decide +kernel⟩
theorem k_Lw_law_91 : okCV m_Lw_law 91 m_Mo_result kMo 1 := ⟨Or.inl w_812, mk_Mo_result, ⟨w_813, w_814⟩, by decide +kernel, ⟨_, rfl, rfl⟩, by decide +kernel⟩
theorem k_Lw_law_92 : okCV m_Lw_law 92 m_HE_edition kHE 1 := ⟨Or.inl w_568, mk_HE_edition, ⟨w_569, w_570⟩, by decide +kernel, ⟨_, rfl, rfl⟩, by decide +kernel⟩
theorem k_Lw_law_95 : okCV m_Lw_law 95 m_Mo_edition kMo 1 := ⟨Or.inl w_816, mk_Mo_edition, ⟨w_817, w_818⟩, by decide +kernel, ⟨_, rfl, rfl⟩, by decide +kernel⟩
theorem k_Lw_law_96 : okCV m_Lw_law 96 m_HE_kept kHE 1 := ⟨Or.inl w_572, mk_HE_kept, ⟨w_573, w_574⟩, by decide +kernel, ⟨_, rfl, rfl⟩, by decide +kernel⟩
theorem k_Lw_law_99 : okCV m_Lw_law 99 m_Mo_kept kMo 1 := ⟨Or.inl w_820, mk_Mo_kept, ⟨w_821, w_822⟩, by decide +kernel, ⟨_, rfl, rfl⟩, by decide +kernel⟩
end
section
/-! What a state of the system is. Lists are lengths with functions; only the prefixes count. -/
-- a definition: parts; interfaces; fields (three cells each); methods (names, flags, lengths, cells of the code)
abbrev Dfn : Type := (Nat → Int32) × (Nat × (Nat → Int32)) × (Nat × (Nat → Int32)) × Nat × (Nat → Int32) × (Nat → Int32) × (Nat → Nat) × (Nat → Nat → Int32)
abbrev dP (D : Dfn) : Nat → Int32 := D.1
abbrev dNi (D : Dfn) : Nat := D.2.1.1
abbrev dI (D : Dfn) : Nat → Int32 := D.2.1.2
abbrev dNf (D : Dfn) : Nat := D.2.2.1.1
abbrev dF (D : Dfn) : Nat → Int32 := D.2.2.1.2
abbrev dNm (D : Dfn) : Nat := D.2.2.2.1
abbrev dN (D : Dfn) : Nat → Int32 := D.2.2.2.2.1
abbrev dG (D : Dfn) : Nat → Int32 := D.2.2.2.2.2.1
abbrev dL (D : Dfn) : Nat → Nat := D.2.2.2.2.2.2.1
abbrev dC (D : Dfn) : Nat → Nat → Int32 := D.2.2.2.2.2.2.2
def dOk (D : Dfn) : Prop := dNi D ≤ 3 ∧ dNf D ≤ 4 ∧ dNm D ≤ 4 ∧ ∀ j, j < dNm D → dL D j ≤ 6
-- the cells of the class
def isCode (G : pmG) (a len : Nat) (c : Nat → Int32) : Prop := len ≤ 6 ∧ G a = some (.inr (kCd, [.ref (a + 1), .int (nI len)])) ∧ ∃ f : Nat → Int32, G (a + 1) = some (.inl (0, 18, .inl f)) ∧ ∀ k, k < 3 * len → f k = c k
def isMth (G : pmG) (a : Nat) (nm fl : Int32) (len : Nat) (c : Nat → Int32) : Prop := G a = some (.inr (kMt, [.int nm, .int fl, .ref (a + 1)])) ∧ isCode G (a + 1) len c
def anMth (G : pmG) (a : Nat) : Prop := ∃ nm fl len c, isMth G a nm fl len c
def isDfU (G : pmG) (a : Nat) (D : Dfn) (m : Nat) : Prop := dOk D ∧ G a = some (.inr (kDf, [.ref (a + 1), .ref (a + 2), .int (nI (dNi D)), .ref (a + 3), .int (nI (dNf D)), .ref (a + 4), .int (nI (dNm D))])) ∧
  (∃ f, G (a + 1) = some (.inl (0, 5, .inl f)) ∧ ∀ k, k < 5 → f k = dP D k) ∧ (∃ f, G (a + 2) = some (.inl (0, 3, .inl f)) ∧ ∀ k, k < dNi D → f k = dI D k) ∧ (∃ f, G (a + 3) = some (.inl (0, 12, .inl f)) ∧ ∀ k, k < 3 * dNf D → f k = dF D k) ∧
  (∃ f, G (a + 4) = some (.inl (kMt + 2, 4, .inr (.inr (.inr (.inr f))))) ∧ ∀ j, j < 4 → f j = some (a + 5 + 3 * j)) ∧ (∀ j, j < 4 → anMth G (a + 5 + 3 * j)) ∧ ∀ j, j < m → isMth G (a + 5 + 3 * j) (dN D j) (dG D j) (dL D j) (dC D j)
def isDef (G : pmG) (a : Nat) (D : Dfn) : Prop := isDfU G a D (dNm D)
theorem isCode.kept {G G' : pmG} {a len : Nat} {c : Nat → Int32} (h : isCode G a len c) (hq : ∀ q, a ≤ q → q < a + 2 → G' q = G q) : isCode G' a len c := by
  obtain ⟨h0, h1, f, h2, h3⟩ := h
  exact ⟨h0, by rw [hq a (by omega) (by omega)]; exact h1, f, by rw [hq (a + 1) (by omega) (by omega)]; exact h2, h3⟩
theorem isMth.kept {G G' : pmG} {a : Nat} {nm fl : Int32} {len : Nat} {c : Nat → Int32} (h : isMth G a nm fl len c) (hq : ∀ q, a ≤ q → q < a + 3 → G' q = G q) : isMth G' a nm fl len c :=
  ⟨by rw [hq a (by omega) (by omega)]; exact h.1, h.2.kept fun q h1 h2 => hq q (by omega) (by omega)⟩
theorem isDfU.kept {G G' : pmG} {a m : Nat} {D : Dfn} (h : isDfU G a D m) (hm : m ≤ 4) (hq : ∀ q, a ≤ q → q < a + 17 → G' q = G q) : isDfU G' a D m := by
  obtain ⟨h0, h1, ⟨f1, h2, h2'⟩, ⟨f2, h3, h3'⟩, ⟨f3, h4, h4'⟩, ⟨f4, h5, h5'⟩, h6, h7⟩ := h
  refine ⟨h0, by rw [hq a (by omega) (by omega)]; exact h1, ⟨f1, by rw [hq _ (by omega) (by omega)]; exact h2, h2'⟩, ⟨f2, by rw [hq _ (by omega) (by omega)]; exact h3, h3'⟩, ⟨f3, by rw [hq _ (by omega) (by omega)]; exact h4, h4'⟩, ⟨f4, by rw [hq _ (by omega) (by omega)]; exact h5, h5'⟩, fun j hj => ?_, fun j hj => ?_⟩
  · obtain ⟨nm, fl, len, c, hm⟩ := h6 j hj
    exact ⟨nm, fl, len, c, hm.kept fun q g1 g2 => hq q (by omega) (by omega)⟩
  · exact (h7 j hj).kept fun q g1 g2 => hq q (by omega) (by omega)
theorem isDef.kept {G G' : pmG} {a : Nat} {D : Dfn} (h : isDef G a D) (hq : ∀ q, a ≤ q → q < a + 17 → G' q = G q) : isDef G' a D := isDfU.kept h h.1.2.2.1 hq
def dSetM (D : Dfn) (j : Nat) (nm fl : Int32) (len : Nat) (c : Nat → Int32) : Dfn := (dP D, (dNi D, dI D), (dNf D, dF D), dNm D, upd (dN D) j nm, upd (dG D) j fl, va_up (dL D) j len, va_up (dC D) j c)
def dSetP (D : Dfn) (f : Nat → Int32) : Dfn := (f, (dNi D, dI D), (dNf D, dF D), dNm D, dN D, dG D, dL D, dC D)
theorem isDfU.mth {G G' : pmG} {a m j : Nat} {D : Dfn} {nm fl : Int32} {len : Nat} {c : Nat → Int32} (h : isDfU G a D m) (hm4 : m ≤ 4) (hj : j < 4) (hm : isMth G' (a + 5 + 3 * j) nm fl len c) (hq : ∀ q, (q < a + 5 + 3 * j ∨ a + 5 + 3 * j + 3 ≤ q) → G' q = G q) : isDfU G' a (dSetM D j nm fl len c) m := by
  obtain ⟨⟨o1, o2, o3, o4⟩, h1, ⟨f1, h2, h2'⟩, ⟨f2, h3, h3'⟩, ⟨f3, h4, h4'⟩, ⟨f4, h5, h5'⟩, h6, h7⟩ := h
  refine ⟨⟨o1, o2, o3, fun i hi => ?_⟩, by rw [hq a (by omega)]; exact h1, ⟨f1, by rw [hq _ (by omega)]; exact h2, h2'⟩, ⟨f2, by rw [hq _ (by omega)]; exact h3, h3'⟩, ⟨f3, by rw [hq _ (by omega)]; exact h4, h4'⟩, ⟨f4, by rw [hq _ (by omega)]; exact h5, h5'⟩, fun i hi => ?_, fun i hi => ?_⟩
  · show va_up (dL D) j len i ≤ 6
    by_cases hij : i = j
    · subst hij; rw [va_up_self]; exact hm.2.1
    · rw [va_up_ne _ _ hij]; exact o4 i hi
  · by_cases hij : i = j
    · subst hij; exact ⟨_, _, _, _, hm⟩
    · obtain ⟨nm', fl', len', c', hm'⟩ := h6 i hi
      exact ⟨nm', fl', len', c', hm'.kept fun q g1 g2 => hq q (by omega)⟩
  · show isMth G' _ (upd (dN D) j nm i) (upd (dG D) j fl i) (va_up (dL D) j len i) (va_up (dC D) j c i)
    by_cases hij : i = j
    · subst hij; rw [pk_us, pk_us, va_up_self, va_up_self]; exact hm
    · rw [pk_un hij, pk_un hij, va_up_ne _ _ hij, va_up_ne _ _ hij]
      exact (h7 i hi).kept fun q g1 g2 => hq q (by omega)
theorem isDef.mth {G G' : pmG} {a j : Nat} {D : Dfn} {nm fl : Int32} {len : Nat} {c : Nat → Int32} (h : isDef G a D) (hj : j < 4) (hm : isMth G' (a + 5 + 3 * j) nm fl len c) (hq : ∀ q, (q < a + 5 + 3 * j ∨ a + 5 + 3 * j + 3 ≤ q) → G' q = G q) : isDef G' a (dSetM D j nm fl len c) := isDfU.mth h h.1.2.2.1 hj hm hq
theorem isDfU.step {G G' : pmG} {a i : Nat} {D : Dfn} (h : isDfU G a D i) (hi : i < 4) (hm : isMth G' (a + 5 + 3 * i) (dN D i) (dG D i) (dL D i) (dC D i)) (hq : ∀ q, (q < a + 5 + 3 * i ∨ a + 5 + 3 * i + 3 ≤ q) → G' q = G q) : isDfU G' a D (i + 1) := by
  obtain ⟨h0, h1, ⟨f1, h2, h2'⟩, ⟨f2, h3, h3'⟩, ⟨f3, h4, h4'⟩, ⟨f4, h5, h5'⟩, h6, h7⟩ := h
  refine ⟨h0, by rw [hq a (by omega)]; exact h1, ⟨f1, by rw [hq _ (by omega)]; exact h2, h2'⟩, ⟨f2, by rw [hq _ (by omega)]; exact h3, h3'⟩, ⟨f3, by rw [hq _ (by omega)]; exact h4, h4'⟩, ⟨f4, by rw [hq _ (by omega)]; exact h5, h5'⟩, fun j hj => ?_, fun j hj => ?_⟩
  · by_cases hij : j = i
    · subst hij; exact ⟨_, _, _, _, hm⟩
    · obtain ⟨nm', fl', len', c', hm'⟩ := h6 j hj
      exact ⟨nm', fl', len', c', hm'.kept fun q g1 g2 => hq q (by omega)⟩
  · by_cases hij : j = i
    · subst hij; exact hm
    · exact (h7 j (by omega)).kept fun q g1 g2 => hq q (by omega)
theorem isDef.parts {G G' : pmG} {a : Nat} {D : Dfn} {f P : Nat → Int32} (h : isDef G a D) (hp : G' (a + 1) = some (.inl (0, 5, .inl f))) (hf : ∀ k, k < 5 → f k = P k) (hq : ∀ q, q ≠ a + 1 → G' q = G q) : isDef G' a (dSetP D P) := by
  obtain ⟨h0, h1, ⟨f1, h2, h2'⟩, ⟨f2, h3, h3'⟩, ⟨f3, h4, h4'⟩, ⟨f4, h5, h5'⟩, h6, h7⟩ := h
  have hm4 := h0.2.2.1
  refine ⟨h0, by rw [hq a (by omega)]; exact h1, ⟨f, hp, hf⟩, ⟨f2, by rw [hq _ (by omega)]; exact h3, h3'⟩, ⟨f3, by rw [hq _ (by omega)]; exact h4, h4'⟩, ⟨f4, by rw [hq _ (by omega)]; exact h5, h5'⟩, fun j hj => ?_, fun j hj => ?_⟩
  · obtain ⟨nm', fl', len', c', hm'⟩ := h6 j hj
    exact ⟨nm', fl', len', c', hm'.kept fun q g1 g2 => hq q (by omega)⟩
  · exact (h7 j hj).kept fun q g1 g2 => hq q (by omega)
noncomputable def pI {α : Type} (p : Prop) (x y : α) : α := @ite α p (Classical.propDecidable p) x y
theorem pI_t {α : Type} {p : Prop} {x y : α} (h : p) : pI p x y = x := if_pos h
theorem pI_f {α : Type} {p : Prop} {x y : α} (h : ¬ p) : pI p x y = y := if_neg h
theorem pB_inj {p q : Prop} (h : pB p = pB q) : p ↔ q := by
  by_cases hp : p <;> by_cases hq : q
  · exact ⟨fun _ => hq, fun _ => hp⟩
  · rw [pB_t hp, pB_f hq] at h; exact absurd h (by decide)
  · rw [pB_f hp, pB_t hq] at h; exact absurd h (by decide)
  · exact ⟨fun h => absurd h hp, fun h => absurd h hq⟩
theorem upd_same (f : Nat → Int32) (k : Nat) : upd f k (f k) = f := by
  funext j
  by_cases h : j = k
  · rw [h, pk_us]
  · rw [pk_un h]
theorem up_same {α : Type} (f : Nat → α) (k : Nat) : va_up f k (f k) = f := by
  funext j
  by_cases h : j = k
  · rw [h, va_up_self]
  · rw [va_up_ne _ _ h]
-- a class that is loaded, a definition on its way, a transformer
def isLd (G : pmG) (b e : Nat) (D O : Dfn) : Prop := G b = some (.inr (kLc, [.int (nI e), .ref (b + 1), .ref (b + 18)])) ∧ isDef G (b + 1) D ∧ isDef G (b + 18) O
def isTr (G : pmG) (b : Nat) (t : Int32) (D O : Dfn) : Prop := G b = some (.inr (kTr, [.int t, .ref (b + 1), .ref (b + 18)])) ∧ isDef G (b + 1) D ∧ isDef G (b + 18) O
theorem isLd.kept {G G' : pmG} {b e : Nat} {D O : Dfn} (h : isLd G b e D O) (hq : ∀ q, b ≤ q → q < b + 35 → G' q = G q) : isLd G' b e D O :=
  ⟨by rw [hq b (by omega) (by omega)]; exact h.1, h.2.1.kept fun q g1 g2 => hq q (by omega) (by omega), h.2.2.kept fun q g1 g2 => hq q (by omega) (by omega)⟩
theorem isTr.kept {G G' : pmG} {b : Nat} {t : Int32} {D O : Dfn} (h : isTr G b t D O) (hq : ∀ q, b ≤ q → q < b + 35 → G' q = G q) : isTr G' b t D O :=
  ⟨by rw [hq b (by omega) (by omega)]; exact h.1, h.2.1.kept fun q g1 g2 => hq q (by omega) (by omega), h.2.2.kept fun q g1 g2 => hq q (by omega) (by omega)⟩
abbrev Trf : Type := Bool × Nat × Int32 × Int32 × Bool
def isTf (G : pmG) (a : Nat) (t : Trf) : Prop := G a = some (.inr (kTf, [.int (pB (t.1 = true)), .int (nI t.2.1), .int t.2.2.1, .int t.2.2.2.1, .int (pB (t.2.2.2.2 = true))]))
theorem isTf.kept {G G' : pmG} {a : Nat} {t : Trf} (h : isTf G a t) (hq : ∀ q, a ≤ q → q < a + 1 → G' q = G q) : isTf G' a t := by
  unfold isTf
  rw [hq a (by omega) (by omega)]
  exact h
end
section
/-! Code: its methods. -/
theorem isCode.congr {G : pmG} {a len : Nat} {c c' : Nat → Int32} (h : isCode G a len c) (he : ∀ k, k < 3 * len → c k = c' k) : isCode G a len c' := by
  obtain ⟨h0, h1, f, h2, h3⟩ := h
  exact ⟨h0, h1, f, h2, fun k hk => (h3 k hk).trans (he k hk)⟩
theorem c_Cd_init {Γ : pmE} {G : pmG} {n : Nat} {Q : pmPost} (h1 : G n = some (.inr (kCd, [.null, .int 0]))) (hQ : ∀ G', isCode G' n 0 (fun _ => 0) → (∀ q, q ≠ n → q ≠ n + 1 → G' q = G q) → Q none (n + 2) G') : pV Γ m_Cd_init 0 [some (.ref n)] [] (n + 1) G 1 18 Q := by
  refine V_aload_n d_Cd_init_0 rfl ?_
  refine V_objInit d_Cd_init_1 w_41 w_21 w_22 (by decide +kernel) rfl ?_
  refine V_aload_n d_Cd_init_4 rfl ?_
  refine V_bipush (v := nI 18) d_Cd_init_5 (by decide +kernel) ?_
  refine V_newi (N := 18) d_Cd_init_7 rfl (by decide) w_51 rfl (by rfl) (by rfl) (fun G1 hn1 ho1 => ?_)
  have hn1 : G1 (n + 1) = some (.inl (0, 18, .inl (fun _ => 0))) := hn1
  show pV Γ _ _ _ (.ref (n + 1) :: _) (n + 2) _ _ _ _
  have h1 := (ho1 _ (by omega)).trans h1
  refine V_putF d_Cd_init_9 p_Cd_11 rfl h1 rfl rfl rfl (fun G2 h1z ho2 => ?_)
  have h1 : G2 n = some (.inr (kCd, [.ref (n + 1), .int (nI 0)])) := h1z
  have hn1 := (ho2 _ (by omega)).trans hn1
  refine V_aload_n d_Cd_init_12 rfl ?_
  refine V_iconst (v := nI 0) d_Cd_init_13 (by decide +kernel) ?_
  refine V_putf d_Cd_init_14 f_Cd_15 p_Cd_15 h1 rfl rfl rfl (fun G3 h1z ho3 => ?_)
  have h1 : G3 n = some (.inr (kCd, [.ref (n + 1), .int (nI 0)])) := h1z
  have hn1 := (ho3 _ (by omega)).trans hn1
  exact V_return d_Cd_init_17 rfl (hQ G3 ⟨by omega, h1, _, hn1, fun k hk => absurd hk (by omega)⟩ (fun q g1 g2 => by rw [ho3 q g1, ho2 q g1, ho1 q g2]))
theorem c_Cd_clear {Γ : pmE} {G : pmG} {n : Nat} {Q : pmPost} {a len : Nat} {c : Nat → Int32} (h : isCode G a len c) (hQ : ∀ G', isCode G' a 0 c → (∀ q, q ≠ a → G' q = G q) → Q none n G') : pV Γ m_Cd_clear 0 [some (.ref a)] [] n G 0 0 Q := by
  obtain ⟨h0, h1, f, h2, h3⟩ := h
  refine V_aload_n d_Cd_clear_0 rfl ?_
  refine V_iconst (v := nI 0) d_Cd_clear_1 (by decide +kernel) ?_
  refine V_putf d_Cd_clear_2 f_Cd_15 p_Cd_15 h1 rfl rfl rfl (fun G1 h1z ho1 => ?_)
  have h1 : G1 a = some (.inr (kCd, [.ref (a + 1), .int (nI 0)])) := h1z
  have h2 := (ho1 _ (by omega)).trans h2
  exact V_return d_Cd_clear_5 rfl (hQ G1 ⟨by omega, h1, f, h2, fun k hk => absurd hk (by omega)⟩ (fun q hq => ho1 q hq))
theorem c_Cd_become {Γ : pmE} {G : pmG} {n : Nat} {Q : pmPost} {a b len lb : Nat} {c e : Nat → Int32} (h : isCode G a len c) (j : isCode G b lb e) (hab : a + 1 < b ∨ b + 1 < a) (hQ : ∀ G', isCode G' a lb e → (∀ q, q ≠ a → q ≠ a + 1 → G' q = G q) → Q none n G') : pV Γ m_Cd_become 0 [some (.ref a), some (.ref b)] [] n G 0 0 Q := by
  obtain ⟨h0, h1, f, h2, h3⟩ := h
  obtain ⟨j0, j1, g, j2, j3⟩ := j
  refine V_aload_n d_Cd_become_0 rfl ?_
  refine V_aload_n d_Cd_become_1 rfl ?_
  refine V_getf d_Cd_become_2 f_Cd_15 j1 rfl ?_
  refine V_putf d_Cd_become_5 f_Cd_15 p_Cd_15 h1 rfl rfl rfl (fun G1 h1z ho1 => ?_)
  have h1 : G1 a = some (.inr (kCd, [.ref (a + 1), .int (nI lb)])) := h1z
  have h2 := (ho1 _ (by omega)).trans h2
  have j1 := (ho1 _ (by omega)).trans j1
  have j2 := (ho1 _ (by omega)).trans j2
  refine V_aload_n d_Cd_become_8 rfl ?_
  refine V_getf d_Cd_become_9 f_Cd_11 j1 rfl ?_
  refine V_iconst (v := nI 0) d_Cd_become_12 (by decide +kernel) ?_
  refine V_aload_n d_Cd_become_13 rfl ?_
  refine V_getf d_Cd_become_14 f_Cd_11 h1 rfl ?_
  refine V_iconst (v := nI 0) d_Cd_become_17 (by decide +kernel) ?_
  refine V_aload_n d_Cd_become_18 rfl ?_
  refine V_getf d_Cd_become_19 f_Cd_15 h1 rfl ?_
  refine V_iconst (v := nI 3) d_Cd_become_22 (by decide +kernel) ?_
  refine V_imulN d_Cd_become_23 ?_
  refine V_copyi (d := 0) (k := lb * 3) d_Cd_become_24 w_285 w_276 w_275 w_12 rfl (by decide +kernel) rfl j2 h2 rfl rfl rfl (by omega) (by omega) (by omega) (by omega) (fun G2 h2' ho2 => ?_)
  have h1 := (ho2 _ (by omega)).trans h1
  refine V_return d_Cd_become_27 rfl (hQ G2 ⟨by omega, h1, _, h2', fun k hk => ?_⟩ (fun q g1 g2 => by rw [ho2 q g2, ho1 q g1]))
  rw [pk_cpy_in (by omega) (by omega), Nat.zero_add, Nat.sub_zero]
  exact j3 k hk
def cd_add (len : Nat) (c : Nat → Int32) (x y z : Int32) : Nat → Int32 := upd (upd (upd c (len * 3) x) (len * 3 + 1) y) (len * 3 + 2) z
set_option maxHeartbeats 1000000 in
theorem c_Cd_add {Γ : pmE} {G : pmG} {n : Nat} {Q : pmPost} {a len : Nat} {c : Nat → Int32} {x y z : Int32} (h : isCode G a len c) (hF : len = 6 → Q (some (.int (nI 0))) n G) (hQ : len < 6 → ∀ G', isCode G' a (len + 1) (cd_add len c x y z) → (∀ q, q ≠ a → q ≠ a + 1 → G' q = G q) → Q (some (.int (nI 1))) n G') : pV Γ m_Cd_add 0 [some (.ref a), some (.int x), some (.int y), some (.int z)] [] n G 0 0 Q := by
  obtain ⟨h0, h1, f, h2, h3⟩ := h
  refine V_aload_n d_Cd_add_0 rfl ?_
  refine V_getf d_Cd_add_1 f_Cd_15 h1 rfl ?_
  refine V_bipush (v := nI 6) d_Cd_add_4 (by decide +kernel) ?_
  refine V_icmp_ltN (tgt := 11) d_Cd_add_6 (by decide) (by omega) (by omega) (fun hb6 => ?_) (fun hb6 => ?_)
  · refine V_aload_n d_Cd_add_11 rfl ?_
    refine V_getf d_Cd_add_12 f_Cd_11 h1 rfl ?_
    refine V_aload_n d_Cd_add_15 rfl ?_
    refine V_getf d_Cd_add_16 f_Cd_15 h1 rfl ?_
    refine V_iconst (v := nI 3) d_Cd_add_19 (by decide +kernel) ?_
    refine V_imulN d_Cd_add_20 ?_
    refine V_iload_n d_Cd_add_21 rfl ?_
    refine V_iastore (j := len * 3) d_Cd_add_22 rfl h2 rfl (by omega) (by omega) (fun G1 h2z ho1 => ?_)
    have h2 := h2z
    have h1 := (ho1 _ (by omega)).trans h1
    refine V_aload_n d_Cd_add_23 rfl ?_
    refine V_getf d_Cd_add_24 f_Cd_11 h1 rfl ?_
    refine V_aload_n d_Cd_add_27 rfl ?_
    refine V_getf d_Cd_add_28 f_Cd_15 h1 rfl ?_
    refine V_iconst (v := nI 3) d_Cd_add_31 (by decide +kernel) ?_
    refine V_imulN d_Cd_add_32 ?_
    refine V_iconst (v := nI 1) d_Cd_add_33 (by decide +kernel) ?_
    refine V_iaddN d_Cd_add_34 ?_
    refine V_iload_n d_Cd_add_35 rfl ?_
    refine V_iastore (j := len * 3 + 1) d_Cd_add_36 rfl h2 rfl (by omega) (by omega) (fun G2 h2z ho2 => ?_)
    have h2 := h2z
    have h1 := (ho2 _ (by omega)).trans h1
    refine V_aload_n d_Cd_add_37 rfl ?_
    refine V_getf d_Cd_add_38 f_Cd_11 h1 rfl ?_
    refine V_aload_n d_Cd_add_41 rfl ?_
    refine V_getf d_Cd_add_42 f_Cd_15 h1 rfl ?_
    refine V_iconst (v := nI 3) d_Cd_add_45 (by decide +kernel) ?_
    refine V_imulN d_Cd_add_46 ?_
    refine V_iconst (v := nI 2) d_Cd_add_47 (by decide +kernel) ?_
    refine V_iaddN d_Cd_add_48 ?_
    refine V_iload_n d_Cd_add_49 rfl ?_
    refine V_iastore (j := len * 3 + 2) d_Cd_add_50 rfl h2 rfl (by omega) (by omega) (fun G3 h2z ho3 => ?_)
    have h2 := h2z
    have h1 := (ho3 _ (by omega)).trans h1
    refine V_aload_n d_Cd_add_51 rfl ?_
    refine V_dup d_Cd_add_52 rfl ?_
    refine V_getf d_Cd_add_53 f_Cd_15 h1 rfl ?_
    refine V_iconst (v := nI 1) d_Cd_add_56 (by decide +kernel) ?_
    refine V_iaddN d_Cd_add_57 ?_
    refine V_putf d_Cd_add_58 f_Cd_15 p_Cd_15 h1 rfl rfl rfl (fun G4 h1z ho4 => ?_)
    have h1 : G4 a = some (.inr (kCd, [.ref (a + 1), .int (nI (len + 1))])) := h1z
    have h2 := (ho4 _ (by omega)).trans h2
    refine V_iconst (v := nI 1) d_Cd_add_61 (by decide +kernel) ?_
    refine V_zreturn d_Cd_add_62 rfl (by first | exact pB_or _ | exact Or.inl rfl | exact Or.inr rfl) (hQ (by omega) G4 ⟨by omega, h1, _, h2, fun k hk => ?_⟩ (fun q g1 g2 => by rw [ho4 q g1, ho3 q g2, ho2 q g2, ho1 q g2]))
    simp only [cd_add, upd]
    by_cases g3 : k = len * 3 + 2
    · simp [g3]
    · by_cases g2 : k = len * 3 + 1
      · simp [g2]
      · by_cases g1 : k = len * 3
        · simp [g1]
        · simp [g1, g2, g3]; exact h3 k (by omega)
  · refine V_iconst (v := nI 0) d_Cd_add_9 (by decide +kernel) ?_
    exact V_zreturn d_Cd_add_10 rfl (by first | exact pB_or _ | exact Or.inl rfl | exact Or.inr rfl) (hF (by omega))
theorem c_Cd_opAt {Γ : pmE} {G : pmG} {n : Nat} {Q : pmPost} {a len i : Nat} {c : Nat → Int32} (h : isCode G a len c) (hi : i < len) (hQ : Q (some (.int (c (i * 3)))) n G) : pV Γ m_Cd_opAt 0 [some (.ref a), some (.int (nI i))] [] n G 0 0 Q := by
  obtain ⟨h0, h1, f, h2, h3⟩ := h
  refine V_aload_n d_Cd_opAt_0 rfl ?_
  refine V_getf d_Cd_opAt_1 f_Cd_11 h1 rfl ?_
  refine V_iload_n d_Cd_opAt_4 rfl ?_
  refine V_iconst (v := nI 3) d_Cd_opAt_5 (by decide +kernel) ?_
  refine V_imulN d_Cd_opAt_6 ?_
  refine V_iaload (j := i * 3) d_Cd_opAt_7 rfl h2 rfl (by omega) (by omega) ?_
  exact V_ireturn d_Cd_opAt_8 rfl (by rw [h3 (i * 3) (by omega)]; exact hQ)
theorem c_Cd_firstOperandAt {Γ : pmE} {G : pmG} {n : Nat} {Q : pmPost} {a len i : Nat} {c : Nat → Int32} (h : isCode G a len c) (hi : i < len) (hQ : Q (some (.int (c (i * 3 + 1)))) n G) : pV Γ m_Cd_firstOperandAt 0 [some (.ref a), some (.int (nI i))] [] n G 0 0 Q := by
  obtain ⟨h0, h1, f, h2, h3⟩ := h
  refine V_aload_n d_Cd_firstOperandAt_0 rfl ?_
  refine V_getf d_Cd_firstOperandAt_1 f_Cd_11 h1 rfl ?_
  refine V_iload_n d_Cd_firstOperandAt_4 rfl ?_
  refine V_iconst (v := nI 3) d_Cd_firstOperandAt_5 (by decide +kernel) ?_
  refine V_imulN d_Cd_firstOperandAt_6 ?_
  refine V_iconst (v := nI 1) d_Cd_firstOperandAt_7 (by decide +kernel) ?_
  refine V_iaddN d_Cd_firstOperandAt_8 ?_
  refine V_iaload (j := i * 3 + 1) d_Cd_firstOperandAt_9 rfl h2 rfl (by omega) (by omega) ?_
  exact V_ireturn d_Cd_firstOperandAt_10 rfl (by rw [h3 (i * 3 + 1) (by omega)]; exact hQ)
theorem c_Cd_secondOperandAt {Γ : pmE} {G : pmG} {n : Nat} {Q : pmPost} {a len i : Nat} {c : Nat → Int32} (h : isCode G a len c) (hi : i < len) (hQ : Q (some (.int (c (i * 3 + 2)))) n G) : pV Γ m_Cd_secondOperandAt 0 [some (.ref a), some (.int (nI i))] [] n G 0 0 Q := by
  obtain ⟨h0, h1, f, h2, h3⟩ := h
  refine V_aload_n d_Cd_secondOperandAt_0 rfl ?_
  refine V_getf d_Cd_secondOperandAt_1 f_Cd_11 h1 rfl ?_
  refine V_iload_n d_Cd_secondOperandAt_4 rfl ?_
  refine V_iconst (v := nI 3) d_Cd_secondOperandAt_5 (by decide +kernel) ?_
  refine V_imulN d_Cd_secondOperandAt_6 ?_
  refine V_iconst (v := nI 2) d_Cd_secondOperandAt_7 (by decide +kernel) ?_
  refine V_iaddN d_Cd_secondOperandAt_8 ?_
  refine V_iaload (j := i * 3 + 2) d_Cd_secondOperandAt_9 rfl h2 rfl (by omega) (by omega) ?_
  exact V_ireturn d_Cd_secondOperandAt_10 rfl (by rw [h3 (i * 3 + 2) (by omega)]; exact hQ)
def cd_rs (v : Int32) (c : Nat → Int32) (i : Nat) : Nat → Int32 := fun k => if k < 3 * i ∧ k % 3 = 1 ∧ c (k - 1) = 0 then c k + v else c k
theorem cd_rs_0 (v : Int32) (c : Nat → Int32) : cd_rs v c 0 = c := by
  funext k
  simp [cd_rs]
theorem cd_rs_out (v : Int32) (c : Nat → Int32) {i k : Nat} (h : 3 * i ≤ k) : cd_rs v c i k = c k := by
  unfold cd_rs
  rw [if_neg (by omega)]
theorem cd_rs_t (v : Int32) (c : Nat → Int32) {i : Nat} (h : c (i * 3) = 0) (k : Nat) : upd (cd_rs v c i) (i * 3 + 1) (c (i * 3 + 1) + v) k = cd_rs v c (i + 1) k := by
  by_cases hk : k = i * 3 + 1
  · subst hk
    rw [pk_us]
    unfold cd_rs
    rw [if_pos ⟨by omega, by omega, by simpa using h⟩]
  · rw [pk_un hk]
    unfold cd_rs
    by_cases h1 : k < 3 * i ∧ k % 3 = 1 ∧ c (k - 1) = 0
    · rw [if_pos h1, if_pos ⟨by omega, h1.2⟩]
    · rw [if_neg h1, if_neg (fun h2 => h1 ⟨by omega, h2.2⟩)]
theorem cd_rs_f (v : Int32) (c : Nat → Int32) {i : Nat} (h : ¬ c (i * 3) = 0) (k : Nat) : cd_rs v c i k = cd_rs v c (i + 1) k := by
  unfold cd_rs
  by_cases h1 : k < 3 * i ∧ k % 3 = 1 ∧ c (k - 1) = 0
  · rw [if_pos h1, if_pos ⟨by omega, h1.2⟩]
  · rw [if_neg h1, if_neg (fun h2 => h1 ⟨by
      rcases Nat.lt_or_ge k (3 * i) with q | q
      · exact q
      · exact absurd (by rw [show i * 3 = k - 1 by omega]; exact h2.2.2) h, h2.2⟩)]
set_option maxHeartbeats 1000000 in
theorem c_Cd_raiseAdditions {Γ : pmE} {G : pmG} {n : Nat} {Q : pmPost} {a len : Nat} {c : Nat → Int32} {v : Int32} (h : isCode G a len c) (hQ : ∀ G', isCode G' a len (cd_rs v c len) → (∀ q, q ≠ a + 1 → G' q = G q) → Q none n G') : pV Γ m_Cd_raiseAdditions 0 [some (.ref a), some (.int v), none] [] n G 0 0 Q := by
  have loop : ∀ (d i : Nat), i ≤ len → len - i < d → ∀ G1 : pmG, isCode G1 a len (cd_rs v c i) → (∀ q, q ≠ a + 1 → G1 q = G q) → pV Γ m_Cd_raiseAdditions 2 [some (.ref a), some (.int v), some (.int (nI i))] [] n G1 0 0 Q := by
    intro d
    induction d with
    | zero => intro i _ hd; exact absurd hd (by omega)
    | succ d ih =>
      intro i hi hd G1 hc ho
      obtain ⟨h0, h1, f, h2, h3⟩ := hc
      refine V_iload_n d_Cd_raiseAdditions_2 rfl ?_
      refine V_aload_n d_Cd_raiseAdditions_3 rfl ?_
      refine V_getf d_Cd_raiseAdditions_4 f_Cd_15 h1 rfl ?_
      refine V_icmp_geN (tgt := 38) d_Cd_raiseAdditions_7 (by decide) (by omega) (by omega) (fun hb7 => ?_) (fun hb7 => ?_)
      · exact V_return d_Cd_raiseAdditions_38 rfl (hQ G1 (isCode.congr ⟨h0, h1, f, h2, h3⟩ (fun k hk => by rw [show i = len by omega])) ho)
      · refine V_aload_n d_Cd_raiseAdditions_10 rfl ?_
        refine V_iload_n d_Cd_raiseAdditions_11 rfl ?_
        refine V_callV (As := [.int (nI i)]) (rest := []) (lo' := [some (.ref a), some (.int (nI i))]) (bc1 := 0) (bs1 := 0) (bc' := 0) (bs' := 0) d_Cd_raiseAdditions_12 k_Cd_raiseAdditions_25 h1 rfl rfl rfl rfl (by rfl) (by rfl) ?_
        refine c_Cd_opAt (len := len) (i := i) (c := cd_rs v c i) ⟨h0, h1, f, h2, h3⟩ (by omega) ?_
        show pV Γ m_Cd_raiseAdditions 15 [some (.ref a), some (.int v), some (.int (nI i))] [.int ((cd_rs v c i (i * 3)))] _ G1 0 0 Q
        rw [cd_rs_out v c (by omega : 3 * i ≤ i * 3)]
        refine V_if_ne (tgt := 32) d_Cd_raiseAdditions_15 (by decide) (fun hb15 => ?_) (fun hb15 => ?_)
        · refine V_iincN d_Cd_raiseAdditions_32 rfl ?_
          show pV Γ _ _ [some (.ref a), some (.int v), some (.int (nI (i + 1)))] _ _ _ _ _ _
          refine V_goto (tgt := 2) d_Cd_raiseAdditions_35 (by decide) ?_
          exact ih (i + 1) (by omega) (by omega) G1 (isCode.congr ⟨h0, h1, f, h2, h3⟩ (fun k _ => cd_rs_f v c hb15 k)) ho
        · refine V_aload_n d_Cd_raiseAdditions_18 rfl ?_
          refine V_getf d_Cd_raiseAdditions_19 f_Cd_11 h1 rfl ?_
          refine V_iload_n d_Cd_raiseAdditions_22 rfl ?_
          refine V_iconst (v := nI 3) d_Cd_raiseAdditions_23 (by decide +kernel) ?_
          refine V_imulN d_Cd_raiseAdditions_24 ?_
          refine V_iconst (v := nI 1) d_Cd_raiseAdditions_25 (by decide +kernel) ?_
          refine V_iaddN d_Cd_raiseAdditions_26 ?_
          refine V_dup2 d_Cd_raiseAdditions_27 rfl rfl ?_
          refine V_iaload (j := i * 3 + 1) d_Cd_raiseAdditions_28 rfl h2 rfl (by omega) (by omega) ?_
          refine V_iload_n d_Cd_raiseAdditions_29 rfl ?_
          refine V_iadd d_Cd_raiseAdditions_30 ?_
          refine V_iastore (j := i * 3 + 1) d_Cd_raiseAdditions_31 rfl h2 rfl (by omega) (by omega) (fun G2 h2z ho2 => ?_)
          have h2 := h2z
          have h1 := (ho2 _ (by omega)).trans h1
          refine V_iincN d_Cd_raiseAdditions_32 rfl ?_
          show pV Γ _ _ [some (.ref a), some (.int v), some (.int (nI (i + 1)))] _ _ _ _ _ _
          refine V_goto (tgt := 2) d_Cd_raiseAdditions_35 (by decide) ?_
          refine ih (i + 1) (by omega) (by omega) G2 (isCode.congr ⟨h0, h1, _, h2, fun k hk => rfl⟩ (fun k hk => ?_)) (fun q g => (ho2 q g).trans (ho q g))
          rw [← cd_rs_t v c hb15 k]
          unfold upd
          split
          · rw [h3 _ (by omega), cd_rs_out v c (by omega)]
          · exact h3 k hk
  refine V_iconst (v := nI 0) d_Cd_raiseAdditions_0 (by decide +kernel) ?_
  refine V_istore_n d_Cd_raiseAdditions_1 (Nat.le_of_ble_eq_true rfl) ?_
  show pV Γ _ _ [some (.ref a), some (.int v), some (.int (nI 0))] _ _ _ _ _ _
  exact loop (len + 1) 0 (by omega) (by omega) G (isCode.congr h (fun k _ => by rw [cd_rs_0])) (fun q _ => rfl)
end
section
/-! Method and Frame. -/
theorem pQ_t {Q : pmPost} {n : Nat} {G : pmG} {p : Prop} (hQ : Q (some (.int (pB p))) n G) (h : p) : Q (some (.int (nI 1))) n G := by rw [pB_t h] at hQ; exact hQ
theorem pQ_f {Q : pmPost} {n : Nat} {G : pmG} {p : Prop} (hQ : Q (some (.int (pB p))) n G) (h : ¬ p) : Q (some (.int (nI 0))) n G := by rw [pB_f h] at hQ; exact hQ
theorem c_Mt_init {Γ : pmE} {G : pmG} {n : Nat} {Q : pmPost} (h1 : G n = some (.inr (kMt, [.int 0, .int 0, .null]))) (hQ : ∀ G', isMth G' n (nI 0) (nI 0) 0 (fun _ => 0) → (∀ q, (q < n ∨ n + 3 ≤ q) → G' q = G q) → Q none (n + 3) G') : pV Γ m_Mt_init 0 [some (.ref n)] [] (n + 1) G 2 20 Q := by
  refine V_aload_n d_Mt_init_0 rfl ?_
  refine V_objInit d_Mt_init_1 w_35 w_21 w_22 (by decide +kernel) rfl ?_
  refine V_aload_n d_Mt_init_4 rfl ?_
  refine V_iconst (v := nI 0) d_Mt_init_5 (by decide +kernel) ?_
  refine V_putf d_Mt_init_6 f_Mt_7 p_Mt_7 h1 rfl rfl rfl (fun G1 h1z ho1 => ?_)
  have h1 : G1 n = some (.inr (kMt, [.int (nI 0), .int (nI 0), .null])) := h1z
  refine V_aload_n d_Mt_init_9 rfl ?_
  refine V_iconst (v := nI 0) d_Mt_init_10 (by decide +kernel) ?_
  refine V_putf d_Mt_init_11 f_Mt_13 p_Mt_13 h1 rfl rfl rfl (fun G2 h1z ho2 => ?_)
  have h1 : G2 n = some (.inr (kMt, [.int (nI 0), .int (nI 0), .null])) := h1z
  refine V_aload_n d_Mt_init_14 rfl ?_
  refine V_new d_Mt_init_15 n_Mt_16 (by rfl) (by rfl) (fun G3 hn3 ho3 => ?_)
  have hn3 : G3 (n + 1) = some (.inr (kCd, [.null, .int 0])) := hn3
  show pV Γ _ _ _ (.ref (n + 1) :: _) (n + 2) _ _ _ _
  have h1 := (ho3 _ (by omega)).trans h1
  refine V_dup d_Mt_init_18 rfl ?_
  refine V_callI (As := []) (rest := [.ref (n + 1), .ref n]) (lo' := [some (.ref (n + 1))]) (bc1 := 1) (bs1 := 18) (bc' := 0) (bs' := 0) d_Mt_init_19 k_Mt_init_18 rfl rfl rfl rfl (by rfl) (by rfl) ?_
  refine c_Cd_init hn3 (fun G4 hc ho4 => ?_)
  have h1 := (ho4 _ (by omega) (by omega)).trans h1
  show pV Γ m_Mt_init 22 [some (.ref n)] [.ref (n + 1), .ref n] _ G4 0 0 Q
  refine V_putF d_Mt_init_22 p_Mt_19 rfl h1 rfl rfl rfl (fun G5 h1z ho5 => ?_)
  have h1 : G5 n = some (.inr (kMt, [.int (nI 0), .int (nI 0), .ref (n + 1)])) := h1z
  have hc := hc.kept (fun q g1 g2 => ho5 q (by omega))
  exact V_return d_Mt_init_25 rfl (hQ G5 ⟨h1, hc⟩ (fun q hq => by rw [ho5 q (by omega), ho4 q (by omega) (by omega), ho3 q (by omega), ho2 q (by omega), ho1 q (by omega)]))
theorem c_Mt_become {Γ : pmE} {G : pmG} {n : Nat} {Q : pmPost} {a b len len2 : Nat} {nm fl nm2 fl2 : Int32} {c c2 : Nat → Int32} (h : isMth G a nm fl len c) (j : isMth G b nm2 fl2 len2 c2) (hab : a + 2 < b ∨ b + 2 < a) (hQ : ∀ G', isMth G' a nm2 fl2 len2 c2 → (∀ q, (q < a ∨ a + 3 ≤ q) → G' q = G q) → Q none n G') : pV Γ m_Mt_become 0 [some (.ref a), some (.ref b)] [] n G 0 0 Q := by
  obtain ⟨h1, hc⟩ := h
  obtain ⟨j1, jc⟩ := j
  refine V_aload_n d_Mt_become_0 rfl ?_
  refine V_aload_n d_Mt_become_1 rfl ?_
  refine V_getf d_Mt_become_2 f_Mt_7 j1 rfl ?_
  refine V_putf d_Mt_become_5 f_Mt_7 p_Mt_7 h1 rfl rfl rfl (fun G1 h1z ho1 => ?_)
  have h1 : G1 a = some (.inr (kMt, [.int nm2, .int fl, .ref (a + 1)])) := h1z
  have hc := hc.kept (fun q g1 g2 => ho1 q (by omega))
  have j1 := (ho1 _ (by omega)).trans j1
  have jc := jc.kept (fun q g1 g2 => ho1 q (by omega))
  refine V_aload_n d_Mt_become_8 rfl ?_
  refine V_aload_n d_Mt_become_9 rfl ?_
  refine V_getf d_Mt_become_10 f_Mt_13 j1 rfl ?_
  refine V_putf d_Mt_become_13 f_Mt_13 p_Mt_13 h1 rfl rfl rfl (fun G2 h1z ho2 => ?_)
  have h1 : G2 a = some (.inr (kMt, [.int nm2, .int fl2, .ref (a + 1)])) := h1z
  have hc := hc.kept (fun q g1 g2 => ho2 q (by omega))
  have j1 := (ho2 _ (by omega)).trans j1
  have jc := jc.kept (fun q g1 g2 => ho2 q (by omega))
  refine V_aload_n d_Mt_become_16 rfl ?_
  refine V_getf d_Mt_become_17 f_Mt_19 h1 rfl ?_
  refine V_aload_n d_Mt_become_20 rfl ?_
  refine V_getf d_Mt_become_21 f_Mt_19 j1 rfl ?_
  refine V_callV (As := [.ref (b + 1)]) (rest := []) (lo' := [some (.ref (a + 1)), some (.ref (b + 1))]) (bc1 := 0) (bs1 := 0) (bc' := 0) (bs' := 0) d_Mt_become_24 k_Mt_become_23 hc.2.1 rfl rfl rfl rfl (by rfl) (by rfl) ?_
  refine c_Cd_become hc jc (by omega) (fun G3 hc ho3 => ?_)
  have h1 := (ho3 _ (by omega) (by omega)).trans h1
  show pV Γ m_Mt_become 27 [some (.ref a), some (.ref b)] [] _ G3 0 0 Q
  exact V_return d_Mt_become_27 rfl (hQ G3 ⟨h1, hc⟩ (fun q hq => by rw [ho3 q (by omega) (by omega), ho2 q (by omega), ho1 q (by omega)]))
def isFrame (G : pmG) (a : Nat) (cl ed : Int32) (len : Nat) (c : Nat → Int32) (pl : Nat) (sm : Int32) : Prop := G a = some (.inr (kFr, [.int cl, .int ed, .ref (a + 1), .int (nI pl), .int sm])) ∧ isCode G (a + 1) len c
def anFrame (G : pmG) (a : Nat) : Prop := ∃ cl ed len c pl sm, isFrame G a cl ed len c pl sm
theorem isFrame.kept {G G' : pmG} {a : Nat} {cl ed : Int32} {len : Nat} {c : Nat → Int32} {pl : Nat} {sm : Int32} (h : isFrame G a cl ed len c pl sm) (hq : ∀ q, a ≤ q → q < a + 3 → G' q = G q) : isFrame G' a cl ed len c pl sm :=
  ⟨by rw [hq a (by omega) (by omega)]; exact h.1, h.2.kept fun q h1 h2 => hq q (by omega) (by omega)⟩
theorem anFrame.kept {G G' : pmG} {a : Nat} (h : anFrame G a) (hq : ∀ q, a ≤ q → q < a + 3 → G' q = G q) : anFrame G' a := by
  obtain ⟨cl, ed, len, c, pl, sm, h⟩ := h
  exact ⟨cl, ed, len, c, pl, sm, h.kept hq⟩
theorem anMth.kept {G G' : pmG} {a : Nat} (h : anMth G a) (hq : ∀ q, a ≤ q → q < a + 3 → G' q = G q) : anMth G' a := by
  obtain ⟨nm, fl, len, c, h⟩ := h
  exact ⟨nm, fl, len, c, h.kept hq⟩
theorem c_Fr_init {Γ : pmE} {G : pmG} {n : Nat} {Q : pmPost} (h1 : G n = some (.inr (kFr, [.int 0, .int 0, .null, .int 0, .int 0]))) (hQ : ∀ G', anFrame G' n → (∀ q, (q < n ∨ n + 3 ≤ q) → G' q = G q) → Q none (n + 3) G') : pV Γ m_Fr_init 0 [some (.ref n)] [] (n + 1) G 2 20 Q := by
  refine V_aload_n d_Fr_init_0 rfl ?_
  refine V_objInit d_Fr_init_1 w_195 w_21 w_22 (by decide +kernel) rfl ?_
  refine V_aload_n d_Fr_init_4 rfl ?_
  refine V_iconst (v := (-1)) d_Fr_init_5 (by decide +kernel) ?_
  refine V_putf d_Fr_init_6 f_Fr_9 p_Fr_9 h1 rfl rfl rfl (fun G1 h1z ho1 => ?_)
  have h1 : G1 n = some (.inr (kFr, [.int ((-1)), .int (nI 0), .null, .int (nI 0), .int (nI 0)])) := h1z
  refine V_aload_n d_Fr_init_9 rfl ?_
  refine V_iconst (v := nI 0) d_Fr_init_10 (by decide +kernel) ?_
  refine V_putf d_Fr_init_11 f_Fr_15 p_Fr_15 h1 rfl rfl rfl (fun G2 h1z ho2 => ?_)
  have h1 : G2 n = some (.inr (kFr, [.int ((-1)), .int (nI 0), .null, .int (nI 0), .int (nI 0)])) := h1z
  refine V_aload_n d_Fr_init_14 rfl ?_
  refine V_new d_Fr_init_15 n_Fr_18 (by rfl) (by rfl) (fun G3 hn3 ho3 => ?_)
  have hn3 : G3 (n + 1) = some (.inr (kCd, [.null, .int 0])) := hn3
  show pV Γ _ _ _ (.ref (n + 1) :: _) (n + 2) _ _ _ _
  have h1 := (ho3 _ (by omega)).trans h1
  refine V_dup d_Fr_init_18 rfl ?_
  refine V_callI (As := []) (rest := [.ref (n + 1), .ref n]) (lo' := [some (.ref (n + 1))]) (bc1 := 1) (bs1 := 18) (bc' := 0) (bs' := 0) d_Fr_init_19 k_Fr_init_20 rfl rfl rfl rfl (by rfl) (by rfl) ?_
  refine c_Cd_init hn3 (fun G4 hc ho4 => ?_)
  have h1 := (ho4 _ (by omega) (by omega)).trans h1
  show pV Γ m_Fr_init 22 [some (.ref n)] [.ref (n + 1), .ref n] _ G4 0 0 Q
  refine V_putF d_Fr_init_22 p_Fr_21 rfl h1 rfl rfl rfl (fun G5 h1z ho5 => ?_)
  have h1 : G5 n = some (.inr (kFr, [.int ((-1)), .int (nI 0), .ref (n + 1), .int (nI 0), .int (nI 0)])) := h1z
  have hc := hc.kept (fun q g1 g2 => ho5 q (by omega))
  refine V_aload_n d_Fr_init_25 rfl ?_
  refine V_iconst (v := nI 0) d_Fr_init_26 (by decide +kernel) ?_
  refine V_putf d_Fr_init_27 f_Fr_25 p_Fr_25 h1 rfl rfl rfl (fun G6 h1z ho6 => ?_)
  have h1 : G6 n = some (.inr (kFr, [.int ((-1)), .int (nI 0), .ref (n + 1), .int (nI 0), .int (nI 0)])) := h1z
  have hc := hc.kept (fun q g1 g2 => ho6 q (by omega))
  refine V_aload_n d_Fr_init_30 rfl ?_
  refine V_iconst (v := nI 0) d_Fr_init_31 (by decide +kernel) ?_
  refine V_putf d_Fr_init_32 f_Fr_28 p_Fr_28 h1 rfl rfl rfl (fun G7 h1z ho7 => ?_)
  have h1 : G7 n = some (.inr (kFr, [.int ((-1)), .int (nI 0), .ref (n + 1), .int (nI 0), .int (nI 0)])) := h1z
  have hc := hc.kept (fun q g1 g2 => ho7 q (by omega))
  exact V_return d_Fr_init_35 rfl (hQ G7 ⟨_, _, _, _, _, _, h1, hc⟩ (fun q hq => by rw [ho7 q (by omega), ho6 q (by omega), ho5 q (by omega), ho4 q (by omega) (by omega), ho3 q (by omega), ho2 q (by omega), ho1 q (by omega)]))
theorem c_Fr_begin {Γ : pmE} {G : pmG} {n : Nat} {Q : pmPost} {a b len2 : Nat} {c2 : Nat → Int32} {x y : Int32} (h : anFrame G a) (jc : isCode G b len2 c2) (hab : a + 2 < b ∨ b + 1 < a) (hQ : ∀ G', isFrame G' a x y len2 c2 0 (nI 0) → (∀ q, (q < a ∨ a + 3 ≤ q) → G' q = G q) → Q none n G') : pV Γ m_Fr_begin 0 [some (.ref a), some (.int x), some (.int y), some (.ref b)] [] n G 0 0 Q := by
  obtain ⟨cl, ed, len, c, pl, sm, h1, hc⟩ := h
  refine V_aload_n d_Fr_begin_0 rfl ?_
  refine V_iload_n d_Fr_begin_1 rfl ?_
  refine V_putf d_Fr_begin_2 f_Fr_9 p_Fr_9 h1 rfl rfl rfl (fun G1 h1z ho1 => ?_)
  have h1 : G1 a = some (.inr (kFr, [.int x, .int ed, .ref (a + 1), .int (nI pl), .int sm])) := h1z
  have hc := hc.kept (fun q g1 g2 => ho1 q (by omega))
  have jc := jc.kept (fun q g1 g2 => ho1 q (by omega))
  refine V_aload_n d_Fr_begin_5 rfl ?_
  refine V_iload_n d_Fr_begin_6 rfl ?_
  refine V_putf d_Fr_begin_7 f_Fr_15 p_Fr_15 h1 rfl rfl rfl (fun G2 h1z ho2 => ?_)
  have h1 : G2 a = some (.inr (kFr, [.int x, .int y, .ref (a + 1), .int (nI pl), .int sm])) := h1z
  have hc := hc.kept (fun q g1 g2 => ho2 q (by omega))
  have jc := jc.kept (fun q g1 g2 => ho2 q (by omega))
  refine V_aload_n d_Fr_begin_10 rfl ?_
  refine V_getf d_Fr_begin_11 f_Fr_21 h1 rfl ?_
  refine V_aload_n d_Fr_begin_14 rfl ?_
  refine V_callV (As := [.ref b]) (rest := []) (lo' := [some (.ref (a + 1)), some (.ref b)]) (bc1 := 0) (bs1 := 0) (bc' := 0) (bs' := 0) d_Fr_begin_15 k_Fr_begin_31 hc.2.1 rfl rfl rfl rfl (by rfl) (by rfl) ?_
  refine c_Cd_become hc jc (by omega) (fun G3 hc ho3 => ?_)
  have h1 := (ho3 _ (by omega) (by omega)).trans h1
  have jc := jc.kept (fun q g1 g2 => ho3 q (by omega) (by omega))
  show pV Γ m_Fr_begin 18 [some (.ref a), some (.int x), some (.int y), some (.ref b)] [] _ G3 0 0 Q
  refine V_aload_n d_Fr_begin_18 rfl ?_
  refine V_iconst (v := nI 0) d_Fr_begin_19 (by decide +kernel) ?_
  refine V_putf d_Fr_begin_20 f_Fr_25 p_Fr_25 h1 rfl rfl rfl (fun G4 h1z ho4 => ?_)
  have h1 : G4 a = some (.inr (kFr, [.int x, .int y, .ref (a + 1), .int (nI 0), .int sm])) := h1z
  have hc := hc.kept (fun q g1 g2 => ho4 q (by omega))
  have jc := jc.kept (fun q g1 g2 => ho4 q (by omega))
  refine V_aload_n d_Fr_begin_23 rfl ?_
  refine V_iconst (v := nI 0) d_Fr_begin_24 (by decide +kernel) ?_
  refine V_putf d_Fr_begin_25 f_Fr_28 p_Fr_28 h1 rfl rfl rfl (fun G5 h1z ho5 => ?_)
  have h1 : G5 a = some (.inr (kFr, [.int x, .int y, .ref (a + 1), .int (nI 0), .int (nI 0)])) := h1z
  have hc := hc.kept (fun q g1 g2 => ho5 q (by omega))
  have jc := jc.kept (fun q g1 g2 => ho5 q (by omega))
  exact V_return d_Fr_begin_28 rfl (hQ G5 ⟨h1, hc⟩ (fun q hq => by rw [ho5 q (by omega), ho4 q (by omega), ho3 q (by omega) (by omega), ho2 q (by omega), ho1 q (by omega)]))
end
section
/-! Definition: what is only read. -/
def pDup (n : Nat) (f : Nat → Int32) : Prop := ∃ i j, j < i ∧ i < n ∧ f i = f j
set_option maxHeartbeats 1000000 in
theorem c_Df_findMethod {Γ : pmE} {G : pmG} {n : Nat} {Q : pmPost} {a : Nat} {D : Dfn} {x : Int32} (h : isDef G a D) (hN : (∀ j, j < dNm D → dN D j ≠ x) → Q (some .null) n G) (hS : ∀ j, j < dNm D → dN D j = x → (∀ i, i < j → dN D i ≠ x) → Q (some (.ref (a + 5 + 3 * j))) n G) : pV Γ m_Df_findMethod 0 [some (.ref a), some (.int x), none] [] n G 0 0 Q := by
  obtain ⟨⟨hni, hnf, hnm, hln⟩, h1, ⟨f1, h2, h2'⟩, ⟨f2, h3, h3'⟩, ⟨f3, h4, h4'⟩, ⟨f4, h5, h5'⟩, h6, h7⟩ := h
  have loop : ∀ (d i : Nat), i ≤ dNm D → dNm D - i < d → (∀ k, k < i → dN D k ≠ x) → pV Γ m_Df_findMethod 2 [some (.ref a), some (.int x), some (.int (nI i))] [] n G 0 0 Q := by
    intro d
    induction d with
    | zero => intro i _ hd; exact absurd hd (by omega)
    | succ d ih =>
      intro i hi hd hv
      refine V_iload_n d_Df_findMethod_2 rfl ?_
      refine V_aload_n d_Df_findMethod_3 rfl ?_
      refine V_getf d_Df_findMethod_4 f_Df_34 h1 rfl ?_
      refine V_icmp_geN (tgt := 36) d_Df_findMethod_7 (by decide) (by omega) (by omega) (fun hb7 => ?_) (fun hb7 => ?_)
      · refine V_null d_Df_findMethod_36 ?_
        exact V_areturn d_Df_findMethod_37 rfl (Or.inl rfl) (hN (fun k hk => hv k (by omega)))
      · refine V_aload_n d_Df_findMethod_10 rfl ?_
        refine V_getf d_Df_findMethod_11 f_Df_30 h1 rfl ?_
        refine V_iload_n d_Df_findMethod_14 rfl ?_
        refine V_aaload (j := i) d_Df_findMethod_15 rfl h5 rfl (by omega) (by omega) ?_
        rw [h5' i (by omega)]
        show pV Γ _ _ _ (.ref (a + 5 + 3 * i) :: _) _ _ _ _ _
        refine V_getf d_Df_findMethod_16 f_Df_51 (h7 i (by omega)).1 rfl ?_
        refine V_iload_n d_Df_findMethod_19 rfl ?_
        refine V_icmp_ne (tgt := 30) d_Df_findMethod_20 (by decide) (fun hb20 => ?_) (fun hb20 => ?_)
        · refine V_iincN d_Df_findMethod_30 rfl ?_
          show pV Γ _ _ [some (.ref a), some (.int x), some (.int (nI (i + 1)))] _ _ _ _ _ _
          refine V_goto (tgt := 2) d_Df_findMethod_33 (by decide) ?_
          exact ih (i + 1) (by omega) (by omega) (fun k hk => by
            rcases Nat.lt_or_ge k i with q | q
            · exact hv k q
            · rw [show k = i by omega]; exact hb20)
        · refine V_aload_n d_Df_findMethod_23 rfl ?_
          refine V_getf d_Df_findMethod_24 f_Df_30 h1 rfl ?_
          refine V_iload_n d_Df_findMethod_27 rfl ?_
          refine V_aaload (j := i) d_Df_findMethod_28 rfl h5 rfl (by omega) (by omega) ?_
          rw [h5' i (by omega)]
          show pV Γ _ _ _ (.ref (a + 5 + 3 * i) :: _) _ _ _ _ _
          exact V_areturn d_Df_findMethod_29 rfl (Or.inr ⟨_, rfl⟩) (hS i (by omega) hb20 hv)
  refine V_iconst (v := nI 0) d_Df_findMethod_0 (by decide +kernel) ?_
  refine V_istore_n d_Df_findMethod_1 (Nat.le_of_ble_eq_true rfl) ?_
  show pV Γ _ _ [some (.ref a), some (.int x), some (.int (nI 0))] _ _ _ _ _ _
  exact loop (dNm D + 1) 0 (by omega) (by omega) (fun k hk => absurd hk (by omega))
set_option maxHeartbeats 1000000 in
theorem c_Df_hasInterface {Γ : pmE} {G : pmG} {n : Nat} {Q : pmPost} {a : Nat} {D : Dfn} {x : Int32} (h : isDef G a D) (hQ : Q (some (.int (pB (∃ k, k < dNi D ∧ dI D k = x)))) n G) : pV Γ m_Df_hasInterface 0 [some (.ref a), some (.int x), none] [] n G 0 0 Q := by
  obtain ⟨⟨hni, hnf, hnm, hln⟩, h1, ⟨f1, h2, h2'⟩, ⟨f2, h3, h3'⟩, ⟨f3, h4, h4'⟩, ⟨f4, h5, h5'⟩, h6, h7⟩ := h
  have loop : ∀ (d i : Nat), i ≤ dNi D → dNi D - i < d → (∀ k, k < i → dI D k ≠ x) → pV Γ m_Df_hasInterface 2 [some (.ref a), some (.int x), some (.int (nI i))] [] n G 0 0 Q := by
    intro d
    induction d with
    | zero => intro i _ hd; exact absurd hd (by omega)
    | succ d ih =>
      intro i hi hd hv
      refine V_iload_n d_Df_hasInterface_2 rfl ?_
      refine V_aload_n d_Df_hasInterface_3 rfl ?_
      refine V_getf d_Df_hasInterface_4 f_Df_18 h1 rfl ?_
      refine V_icmp_geN (tgt := 28) d_Df_hasInterface_7 (by decide) (by omega) (by omega) (fun hb7 => ?_) (fun hb7 => ?_)
      · refine V_iconst (v := nI 0) d_Df_hasInterface_28 (by decide +kernel) ?_
        exact V_zreturn d_Df_hasInterface_29 rfl (by first | exact pB_or _ | exact Or.inl rfl | exact Or.inr rfl) (pQ_f hQ (fun ⟨k, hk, e⟩ => hv k (by omega) e))
      · refine V_aload_n d_Df_hasInterface_10 rfl ?_
        refine V_getf d_Df_hasInterface_11 f_Df_15 h1 rfl ?_
        refine V_iload_n d_Df_hasInterface_14 rfl ?_
        refine V_iaload (j := i) d_Df_hasInterface_15 rfl h3 rfl (by omega) (by omega) ?_
        refine V_iload_n d_Df_hasInterface_16 rfl ?_
        refine V_icmp_ne (tgt := 22) d_Df_hasInterface_17 (by decide) (fun hb17 => ?_) (fun hb17 => ?_)
        · refine V_iincN d_Df_hasInterface_22 rfl ?_
          show pV Γ _ _ [some (.ref a), some (.int x), some (.int (nI (i + 1)))] _ _ _ _ _ _
          refine V_goto (tgt := 2) d_Df_hasInterface_25 (by decide) ?_
          exact ih (i + 1) (by omega) (by omega) (fun k hk => by
            rcases Nat.lt_or_ge k i with q | q
            · exact hv k q
            · rw [show k = i by omega, ← h3' i (by omega)]; exact hb17)
        · refine V_iconst (v := nI 1) d_Df_hasInterface_20 (by decide +kernel) ?_
          exact V_zreturn d_Df_hasInterface_21 rfl (by first | exact pB_or _ | exact Or.inl rfl | exact Or.inr rfl) (pQ_t hQ ⟨i, by omega, by rw [← h3' i (by omega)]; exact hb17⟩)
  refine V_iconst (v := nI 0) d_Df_hasInterface_0 (by decide +kernel) ?_
  refine V_istore_n d_Df_hasInterface_1 (Nat.le_of_ble_eq_true rfl) ?_
  show pV Γ _ _ [some (.ref a), some (.int x), some (.int (nI 0))] _ _ _ _ _ _
  exact loop (dNi D + 1) 0 (by omega) (by omega) (fun k hk => absurd hk (by omega))
set_option maxHeartbeats 1000000 in
theorem c_Df_hasEqualInterfaces {Γ : pmE} {G : pmG} {n : Nat} {Q : pmPost} {a : Nat} {D : Dfn} (h : isDef G a D) (hQ : Q (some (.int (pB (pDup (dNi D) (dI D))))) n G) : pV Γ m_Df_hasEqualInterfaces 0 [some (.ref a), none, none] [] n G 0 0 Q := by
  obtain ⟨⟨hni, hnf, hnm, hln⟩, h1, ⟨f1, h2, h2'⟩, ⟨f2, h3, h3'⟩, ⟨f3, h4, h4'⟩, ⟨f4, h5, h5'⟩, h6, h7⟩ := h
  have loop : ∀ (d i : Nat), i ≤ dNi D → dNi D - i < d → ∀ w : Option Value, (∀ k, k < i → ∀ j, j < k → dI D k ≠ dI D j) → pV Γ m_Df_hasEqualInterfaces 2 [some (.ref a), some (.int (nI i)), w] [] n G 0 0 Q := by
    intro d
    induction d with
    | zero => intro i _ hd; exact absurd hd (by omega)
    | succ d ih =>
      intro i hi hd w hv
      refine V_iload_n d_Df_hasEqualInterfaces_2 rfl ?_
      refine V_aload_n d_Df_hasEqualInterfaces_3 rfl ?_
      refine V_getf d_Df_hasEqualInterfaces_4 f_Df_18 h1 rfl ?_
      refine V_icmp_geN (tgt := 46) d_Df_hasEqualInterfaces_7 (by decide) (by omega) (by omega) (fun hb7 => ?_) (fun hb7 => ?_)
      · refine V_iconst (v := nI 0) d_Df_hasEqualInterfaces_46 (by decide +kernel) ?_
        exact V_zreturn d_Df_hasEqualInterfaces_47 rfl (by first | exact pB_or _ | exact Or.inl rfl | exact Or.inr rfl) (pQ_f hQ (fun ⟨k, j, g1, g2, e⟩ => hv k (by omega) j g1 e))
      · refine V_iconst (v := nI 0) d_Df_hasEqualInterfaces_10 (by decide +kernel) ?_
        refine V_istore_n d_Df_hasEqualInterfaces_11 (Nat.le_of_ble_eq_true rfl) ?_
        show pV Γ _ _ [some (.ref a), some (.int (nI i)), some (.int (nI 0))] _ _ _ _ _ _
        have inner : ∀ (d2 j : Nat), j ≤ i → i - j < d2 → (∀ k, k < j → dI D i ≠ dI D k) → pV Γ m_Df_hasEqualInterfaces 12 [some (.ref a), some (.int (nI i)), some (.int (nI j))] [] n G 0 0 Q := by
          intro d2
          induction d2 with
          | zero => intro j _ hd2; exact absurd hd2 (by omega)
          | succ d2 ih2 =>
            intro j hj hd2 hw
            refine V_iload_n d_Df_hasEqualInterfaces_12 rfl ?_
            refine V_iload_n d_Df_hasEqualInterfaces_13 rfl ?_
            refine V_icmp_geN (tgt := 40) d_Df_hasEqualInterfaces_14 (by decide) (by omega) (by omega) (fun hb14 => ?_) (fun hb14 => ?_)
            · refine V_iincN d_Df_hasEqualInterfaces_40 rfl ?_
              show pV Γ _ _ [some (.ref a), some (.int (nI (i + 1))), some (.int (nI j))] _ _ _ _ _ _
              refine V_goto (tgt := 2) d_Df_hasEqualInterfaces_43 (by decide) ?_
              exact ih (i + 1) (by omega) (by omega) _ (fun k hk j hj => by
                rcases Nat.lt_or_ge k i with q | q
                · exact hv k q j hj
                · rw [show k = i by omega]; exact hw j (by omega))
            · refine V_aload_n d_Df_hasEqualInterfaces_17 rfl ?_
              refine V_getf d_Df_hasEqualInterfaces_18 f_Df_15 h1 rfl ?_
              refine V_iload_n d_Df_hasEqualInterfaces_21 rfl ?_
              refine V_iaload (j := i) d_Df_hasEqualInterfaces_22 rfl h3 rfl (by omega) (by omega) ?_
              refine V_aload_n d_Df_hasEqualInterfaces_23 rfl ?_
              refine V_getf d_Df_hasEqualInterfaces_24 f_Df_15 h1 rfl ?_
              refine V_iload_n d_Df_hasEqualInterfaces_27 rfl ?_
              refine V_iaload (j := j) d_Df_hasEqualInterfaces_28 rfl h3 rfl (by omega) (by omega) ?_
              refine V_icmp_ne (tgt := 34) d_Df_hasEqualInterfaces_29 (by decide) (fun hb29 => ?_) (fun hb29 => ?_)
              · refine V_iincN d_Df_hasEqualInterfaces_34 rfl ?_
                show pV Γ _ _ [some (.ref a), some (.int (nI i)), some (.int (nI (j + 1)))] _ _ _ _ _ _
                refine V_goto (tgt := 12) d_Df_hasEqualInterfaces_37 (by decide) ?_
                exact ih2 (j + 1) (by omega) (by omega) (fun k hk => by
                  rcases Nat.lt_or_ge k j with q | q
                  · exact hw k q
                  · rw [show k = j by omega]; exact (by rw [← h3' i (by omega), ← h3' j (by omega)]; exact hb29))
              · refine V_iconst (v := nI 1) d_Df_hasEqualInterfaces_32 (by decide +kernel) ?_
                exact V_zreturn d_Df_hasEqualInterfaces_33 rfl (by first | exact pB_or _ | exact Or.inl rfl | exact Or.inr rfl) (pQ_t hQ ⟨i, j, by omega, by omega, (by rw [← h3' i (by omega), ← h3' j (by omega)]; exact hb29)⟩)
        exact inner (i + 1) 0 (by omega) (by omega) (fun k hk => absurd hk (by omega))
  refine V_iconst (v := nI 0) d_Df_hasEqualInterfaces_0 (by decide +kernel) ?_
  refine V_istore_n d_Df_hasEqualInterfaces_1 (Nat.le_of_ble_eq_true rfl) ?_
  show pV Γ _ _ [some (.ref a), some (.int (nI 0)), none] _ _ _ _ _ _
  exact loop (dNi D + 1) 0 (by omega) (by omega) _ (fun k hk => absurd hk (by omega))
set_option maxHeartbeats 1000000 in
theorem c_Df_hasFieldsOfOneName {Γ : pmE} {G : pmG} {n : Nat} {Q : pmPost} {a : Nat} {D : Dfn} (h : isDef G a D) (hQ : Q (some (.int (pB (pDup (dNf D) (fun k => dF D (k * 3)))))) n G) : pV Γ m_Df_hasFieldsOfOneName 0 [some (.ref a), none, none] [] n G 0 0 Q := by
  obtain ⟨⟨hni, hnf, hnm, hln⟩, h1, ⟨f1, h2, h2'⟩, ⟨f2, h3, h3'⟩, ⟨f3, h4, h4'⟩, ⟨f4, h5, h5'⟩, h6, h7⟩ := h
  have loop : ∀ (d i : Nat), i ≤ dNf D → dNf D - i < d → ∀ w : Option Value, (∀ k, k < i → ∀ j, j < k → (fun k => dF D (k * 3)) k ≠ (fun k => dF D (k * 3)) j) → pV Γ m_Df_hasFieldsOfOneName 2 [some (.ref a), some (.int (nI i)), w] [] n G 0 0 Q := by
    intro d
    induction d with
    | zero => intro i _ hd; exact absurd hd (by omega)
    | succ d ih =>
      intro i hi hd w hv
      refine V_iload_n d_Df_hasFieldsOfOneName_2 rfl ?_
      refine V_aload_n d_Df_hasFieldsOfOneName_3 rfl ?_
      refine V_getf d_Df_hasFieldsOfOneName_4 f_Df_25 h1 rfl ?_
      refine V_icmp_geN (tgt := 50) d_Df_hasFieldsOfOneName_7 (by decide) (by omega) (by omega) (fun hb7 => ?_) (fun hb7 => ?_)
      · refine V_iconst (v := nI 0) d_Df_hasFieldsOfOneName_50 (by decide +kernel) ?_
        exact V_zreturn d_Df_hasFieldsOfOneName_51 rfl (by first | exact pB_or _ | exact Or.inl rfl | exact Or.inr rfl) (pQ_f hQ (fun ⟨k, j, g1, g2, e⟩ => hv k (by omega) j g1 e))
      · refine V_iconst (v := nI 0) d_Df_hasFieldsOfOneName_10 (by decide +kernel) ?_
        refine V_istore_n d_Df_hasFieldsOfOneName_11 (Nat.le_of_ble_eq_true rfl) ?_
        show pV Γ _ _ [some (.ref a), some (.int (nI i)), some (.int (nI 0))] _ _ _ _ _ _
        have inner : ∀ (d2 j : Nat), j ≤ i → i - j < d2 → (∀ k, k < j → (fun k => dF D (k * 3)) i ≠ (fun k => dF D (k * 3)) k) → pV Γ m_Df_hasFieldsOfOneName 12 [some (.ref a), some (.int (nI i)), some (.int (nI j))] [] n G 0 0 Q := by
          intro d2
          induction d2 with
          | zero => intro j _ hd2; exact absurd hd2 (by omega)
          | succ d2 ih2 =>
            intro j hj hd2 hw
            refine V_iload_n d_Df_hasFieldsOfOneName_12 rfl ?_
            refine V_iload_n d_Df_hasFieldsOfOneName_13 rfl ?_
            refine V_icmp_geN (tgt := 44) d_Df_hasFieldsOfOneName_14 (by decide) (by omega) (by omega) (fun hb14 => ?_) (fun hb14 => ?_)
            · refine V_iincN d_Df_hasFieldsOfOneName_44 rfl ?_
              show pV Γ _ _ [some (.ref a), some (.int (nI (i + 1))), some (.int (nI j))] _ _ _ _ _ _
              refine V_goto (tgt := 2) d_Df_hasFieldsOfOneName_47 (by decide) ?_
              exact ih (i + 1) (by omega) (by omega) _ (fun k hk j hj => by
                rcases Nat.lt_or_ge k i with q | q
                · exact hv k q j hj
                · rw [show k = i by omega]; exact hw j (by omega))
            · refine V_aload_n d_Df_hasFieldsOfOneName_17 rfl ?_
              refine V_getf d_Df_hasFieldsOfOneName_18 f_Df_22 h1 rfl ?_
              refine V_iload_n d_Df_hasFieldsOfOneName_21 rfl ?_
              refine V_iconst (v := nI 3) d_Df_hasFieldsOfOneName_22 (by decide +kernel) ?_
              refine V_imulN d_Df_hasFieldsOfOneName_23 ?_
              refine V_iaload (j := i * 3) d_Df_hasFieldsOfOneName_24 rfl h4 rfl (by omega) (by omega) ?_
              refine V_aload_n d_Df_hasFieldsOfOneName_25 rfl ?_
              refine V_getf d_Df_hasFieldsOfOneName_26 f_Df_22 h1 rfl ?_
              refine V_iload_n d_Df_hasFieldsOfOneName_29 rfl ?_
              refine V_iconst (v := nI 3) d_Df_hasFieldsOfOneName_30 (by decide +kernel) ?_
              refine V_imulN d_Df_hasFieldsOfOneName_31 ?_
              refine V_iaload (j := j * 3) d_Df_hasFieldsOfOneName_32 rfl h4 rfl (by omega) (by omega) ?_
              refine V_icmp_ne (tgt := 38) d_Df_hasFieldsOfOneName_33 (by decide) (fun hb33 => ?_) (fun hb33 => ?_)
              · refine V_iincN d_Df_hasFieldsOfOneName_38 rfl ?_
                show pV Γ _ _ [some (.ref a), some (.int (nI i)), some (.int (nI (j + 1)))] _ _ _ _ _ _
                refine V_goto (tgt := 12) d_Df_hasFieldsOfOneName_41 (by decide) ?_
                exact ih2 (j + 1) (by omega) (by omega) (fun k hk => by
                  rcases Nat.lt_or_ge k j with q | q
                  · exact hw k q
                  · rw [show k = j by omega]; exact (by show dF D (i * 3) ≠ dF D (j * 3); rw [← h4' (i * 3) (by omega), ← h4' (j * 3) (by omega)]; exact hb33))
              · refine V_iconst (v := nI 1) d_Df_hasFieldsOfOneName_36 (by decide +kernel) ?_
                exact V_zreturn d_Df_hasFieldsOfOneName_37 rfl (by first | exact pB_or _ | exact Or.inl rfl | exact Or.inr rfl) (pQ_t hQ ⟨i, j, by omega, by omega, (by show dF D (i * 3) = dF D (j * 3); rw [← h4' (i * 3) (by omega), ← h4' (j * 3) (by omega)]; exact hb33)⟩)
        exact inner (i + 1) 0 (by omega) (by omega) (fun k hk => absurd hk (by omega))
  refine V_iconst (v := nI 0) d_Df_hasFieldsOfOneName_0 (by decide +kernel) ?_
  refine V_istore_n d_Df_hasFieldsOfOneName_1 (Nat.le_of_ble_eq_true rfl) ?_
  show pV Γ _ _ [some (.ref a), some (.int (nI 0)), none] _ _ _ _ _ _
  exact loop (dNf D + 1) 0 (by omega) (by omega) _ (fun k hk => absurd hk (by omega))
set_option maxHeartbeats 1000000 in
theorem c_Df_hasMethodsOfOneName {Γ : pmE} {G : pmG} {n : Nat} {Q : pmPost} {a : Nat} {D : Dfn} (h : isDef G a D) (hQ : Q (some (.int (pB (pDup (dNm D) (dN D))))) n G) : pV Γ m_Df_hasMethodsOfOneName 0 [some (.ref a), none, none] [] n G 0 0 Q := by
  obtain ⟨⟨hni, hnf, hnm, hln⟩, h1, ⟨f1, h2, h2'⟩, ⟨f2, h3, h3'⟩, ⟨f3, h4, h4'⟩, ⟨f4, h5, h5'⟩, h6, h7⟩ := h
  have loop : ∀ (d i : Nat), i ≤ dNm D → dNm D - i < d → ∀ w : Option Value, (∀ k, k < i → ∀ j, j < k → dN D k ≠ dN D j) → pV Γ m_Df_hasMethodsOfOneName 2 [some (.ref a), some (.int (nI i)), w] [] n G 0 0 Q := by
    intro d
    induction d with
    | zero => intro i _ hd; exact absurd hd (by omega)
    | succ d ih =>
      intro i hi hd w hv
      refine V_iload_n d_Df_hasMethodsOfOneName_2 rfl ?_
      refine V_aload_n d_Df_hasMethodsOfOneName_3 rfl ?_
      refine V_getf d_Df_hasMethodsOfOneName_4 f_Df_34 h1 rfl ?_
      refine V_icmp_geN (tgt := 52) d_Df_hasMethodsOfOneName_7 (by decide) (by omega) (by omega) (fun hb7 => ?_) (fun hb7 => ?_)
      · refine V_iconst (v := nI 0) d_Df_hasMethodsOfOneName_52 (by decide +kernel) ?_
        exact V_zreturn d_Df_hasMethodsOfOneName_53 rfl (by first | exact pB_or _ | exact Or.inl rfl | exact Or.inr rfl) (pQ_f hQ (fun ⟨k, j, g1, g2, e⟩ => hv k (by omega) j g1 e))
      · refine V_iconst (v := nI 0) d_Df_hasMethodsOfOneName_10 (by decide +kernel) ?_
        refine V_istore_n d_Df_hasMethodsOfOneName_11 (Nat.le_of_ble_eq_true rfl) ?_
        show pV Γ _ _ [some (.ref a), some (.int (nI i)), some (.int (nI 0))] _ _ _ _ _ _
        have inner : ∀ (d2 j : Nat), j ≤ i → i - j < d2 → (∀ k, k < j → dN D i ≠ dN D k) → pV Γ m_Df_hasMethodsOfOneName 12 [some (.ref a), some (.int (nI i)), some (.int (nI j))] [] n G 0 0 Q := by
          intro d2
          induction d2 with
          | zero => intro j _ hd2; exact absurd hd2 (by omega)
          | succ d2 ih2 =>
            intro j hj hd2 hw
            refine V_iload_n d_Df_hasMethodsOfOneName_12 rfl ?_
            refine V_iload_n d_Df_hasMethodsOfOneName_13 rfl ?_
            refine V_icmp_geN (tgt := 46) d_Df_hasMethodsOfOneName_14 (by decide) (by omega) (by omega) (fun hb14 => ?_) (fun hb14 => ?_)
            · refine V_iincN d_Df_hasMethodsOfOneName_46 rfl ?_
              show pV Γ _ _ [some (.ref a), some (.int (nI (i + 1))), some (.int (nI j))] _ _ _ _ _ _
              refine V_goto (tgt := 2) d_Df_hasMethodsOfOneName_49 (by decide) ?_
              exact ih (i + 1) (by omega) (by omega) _ (fun k hk j hj => by
                rcases Nat.lt_or_ge k i with q | q
                · exact hv k q j hj
                · rw [show k = i by omega]; exact hw j (by omega))
            · refine V_aload_n d_Df_hasMethodsOfOneName_17 rfl ?_
              refine V_getf d_Df_hasMethodsOfOneName_18 f_Df_30 h1 rfl ?_
              refine V_iload_n d_Df_hasMethodsOfOneName_21 rfl ?_
              refine V_aaload (j := i) d_Df_hasMethodsOfOneName_22 rfl h5 rfl (by omega) (by omega) ?_
              rw [h5' i (by omega)]
              show pV Γ _ _ _ (.ref (a + 5 + 3 * i) :: _) _ _ _ _ _
              refine V_getf d_Df_hasMethodsOfOneName_23 f_Df_51 (h7 i (by omega)).1 rfl ?_
              refine V_aload_n d_Df_hasMethodsOfOneName_26 rfl ?_
              refine V_getf d_Df_hasMethodsOfOneName_27 f_Df_30 h1 rfl ?_
              refine V_iload_n d_Df_hasMethodsOfOneName_30 rfl ?_
              refine V_aaload (j := j) d_Df_hasMethodsOfOneName_31 rfl h5 rfl (by omega) (by omega) ?_
              rw [h5' j (by omega)]
              show pV Γ _ _ _ (.ref (a + 5 + 3 * j) :: _) _ _ _ _ _
              refine V_getf d_Df_hasMethodsOfOneName_32 f_Df_51 (h7 j (by omega)).1 rfl ?_
              refine V_icmp_ne (tgt := 40) d_Df_hasMethodsOfOneName_35 (by decide) (fun hb35 => ?_) (fun hb35 => ?_)
              · refine V_iincN d_Df_hasMethodsOfOneName_40 rfl ?_
                show pV Γ _ _ [some (.ref a), some (.int (nI i)), some (.int (nI (j + 1)))] _ _ _ _ _ _
                refine V_goto (tgt := 12) d_Df_hasMethodsOfOneName_43 (by decide) ?_
                exact ih2 (j + 1) (by omega) (by omega) (fun k hk => by
                  rcases Nat.lt_or_ge k j with q | q
                  · exact hw k q
                  · rw [show k = j by omega]; exact hb35)
              · refine V_iconst (v := nI 1) d_Df_hasMethodsOfOneName_38 (by decide +kernel) ?_
                exact V_zreturn d_Df_hasMethodsOfOneName_39 rfl (by first | exact pB_or _ | exact Or.inl rfl | exact Or.inr rfl) (pQ_t hQ ⟨i, j, by omega, by omega, hb35⟩)
        exact inner (i + 1) 0 (by omega) (by omega) (fun k hk => absurd hk (by omega))
  refine V_iconst (v := nI 0) d_Df_hasMethodsOfOneName_0 (by decide +kernel) ?_
  refine V_istore_n d_Df_hasMethodsOfOneName_1 (Nat.le_of_ble_eq_true rfl) ?_
  show pV Γ _ _ [some (.ref a), some (.int (nI 0)), none] _ _ _ _ _ _
  exact loop (dNm D + 1) 0 (by omega) (by omega) _ (fun k hk => absurd hk (by omega))
end
section
/-! Definition: two of them beside each other. -/
set_option maxHeartbeats 1000000 in
theorem c_Df_hasFieldsOf {Γ : pmE} {G : pmG} {n : Nat} {Q : pmPost} {a b : Nat} {D E : Dfn} (h : isDef G a D) (j : isDef G b E) (hQ : Q (some (.int (pB (dNf D = dNf E ∧ ∀ k, k < 3 * dNf D → dF D k = dF E k)))) n G) : pV Γ m_Df_hasFieldsOf 0 [some (.ref a), some (.ref b), none] [] n G 0 0 Q := by
  obtain ⟨⟨hni, hnf, hnm, hln⟩, h1, ⟨f1, h2, h2'⟩, ⟨f2, h3, h3'⟩, ⟨f3, h4, h4'⟩, ⟨f4, h5, h5'⟩, h6, h7⟩ := h
  obtain ⟨⟨jni, jnf, jnm, jln⟩, j1, ⟨g1, j2, j2'⟩, ⟨g2, j3, j3'⟩, ⟨g3, j4, j4'⟩, ⟨g4, j5, j5'⟩, j6, j7⟩ := j
  refine V_aload_n d_Df_hasFieldsOf_0 rfl ?_
  refine V_getf d_Df_hasFieldsOf_1 f_Df_25 h1 rfl ?_
  refine V_aload_n d_Df_hasFieldsOf_4 rfl ?_
  refine V_getf d_Df_hasFieldsOf_5 f_Df_25 j1 rfl ?_
  refine V_icmp_eqN (tgt := 13) d_Df_hasFieldsOf_8 (by decide) (by omega) (by omega) (fun hb8 => ?_) (fun hb8 => ?_)
  · refine V_iconst (v := nI 0) d_Df_hasFieldsOf_13 (by decide +kernel) ?_
    refine V_istore_n d_Df_hasFieldsOf_14 (Nat.le_of_ble_eq_true rfl) ?_
    show pV Γ _ _ [some (.ref a), some (.ref b), some (.int (nI 0))] _ _ _ _ _ _
    have he : dNf D = dNf E := hb8
    have loop : ∀ (d i : Nat), i ≤ dNf D * 3 → dNf D * 3 - i < d → (∀ k, k < i → dF D k = dF E k) → pV Γ m_Df_hasFieldsOf 15 [some (.ref a), some (.ref b), some (.int (nI i))] [] n G 0 0 Q := by
      intro d
      induction d with
      | zero => intro i _ hd; exact absurd hd (by omega)
      | succ d ih =>
        intro i hi hd hv
        refine V_iload_n d_Df_hasFieldsOf_15 rfl ?_
        refine V_aload_n d_Df_hasFieldsOf_16 rfl ?_
        refine V_getf d_Df_hasFieldsOf_17 f_Df_25 h1 rfl ?_
        refine V_iconst (v := nI 3) d_Df_hasFieldsOf_20 (by decide +kernel) ?_
        refine V_imulN d_Df_hasFieldsOf_21 ?_
        refine V_icmp_geN (tgt := 48) d_Df_hasFieldsOf_22 (by decide) (by omega) (by omega) (fun hb22 => ?_) (fun hb22 => ?_)
        · refine V_iconst (v := nI 1) d_Df_hasFieldsOf_48 (by decide +kernel) ?_
          exact V_zreturn d_Df_hasFieldsOf_49 rfl (by first | exact pB_or _ | exact Or.inl rfl | exact Or.inr rfl) (pQ_t hQ ⟨he, fun k hk => hv k (by omega)⟩)
        · refine V_aload_n d_Df_hasFieldsOf_25 rfl ?_
          refine V_getf d_Df_hasFieldsOf_26 f_Df_22 h1 rfl ?_
          refine V_iload_n d_Df_hasFieldsOf_29 rfl ?_
          refine V_iaload (j := i) d_Df_hasFieldsOf_30 rfl h4 rfl (by omega) (by omega) ?_
          refine V_aload_n d_Df_hasFieldsOf_31 rfl ?_
          refine V_getf d_Df_hasFieldsOf_32 f_Df_22 j1 rfl ?_
          refine V_iload_n d_Df_hasFieldsOf_35 rfl ?_
          refine V_iaload (j := i) d_Df_hasFieldsOf_36 rfl j4 rfl (by omega) (by omega) ?_
          refine V_icmp_eq (tgt := 42) d_Df_hasFieldsOf_37 (by decide) (fun hb37 => ?_) (fun hb37 => ?_)
          · refine V_iincN d_Df_hasFieldsOf_42 rfl ?_
            show pV Γ _ _ [some (.ref a), some (.ref b), some (.int (nI (i + 1)))] _ _ _ _ _ _
            refine V_goto (tgt := 15) d_Df_hasFieldsOf_45 (by decide) ?_
            exact ih (i + 1) (by omega) (by omega) (fun k hk => by
              rcases Nat.lt_or_ge k i with q | q
              · exact hv k q
              · rw [show k = i by omega, ← h4' i (by omega), ← j4' i (by omega)]; exact hb37)
          · refine V_iconst (v := nI 0) d_Df_hasFieldsOf_40 (by decide +kernel) ?_
            exact V_zreturn d_Df_hasFieldsOf_41 rfl (by first | exact pB_or _ | exact Or.inl rfl | exact Or.inr rfl) (pQ_f hQ (fun e => hb37 (by rw [h4' i (by omega), j4' i (by omega)]; exact e.2 i (by omega))))
    exact loop (dNf D * 3 + 1) 0 (by omega) (by omega) (fun k hk => absurd hk (by omega))
  · refine V_iconst (v := nI 0) d_Df_hasFieldsOf_11 (by decide +kernel) ?_
    exact V_zreturn d_Df_hasFieldsOf_12 rfl (by first | exact pB_or _ | exact Or.inl rfl | exact Or.inr rfl) (pQ_f hQ (fun e => hb8 e.1))
set_option maxHeartbeats 1000000 in
theorem c_Df_hasInterfacesOf {Γ : pmE} {G : pmG} {n : Nat} {Q : pmPost} {a b : Nat} {D E : Dfn} (h : isDef G a D) (j : isDef G b E) (hQ : Q (some (.int (pB (dNi D = dNi E ∧ ∀ k, k < dNi D → ∃ m, m < dNi E ∧ dI E m = dI D k)))) n G) : pV Γ m_Df_hasInterfacesOf 0 [some (.ref a), some (.ref b), none] [] n G 0 0 Q := by
  have hE := j
  obtain ⟨⟨hni, hnf, hnm, hln⟩, h1, ⟨f1, h2, h2'⟩, ⟨f2, h3, h3'⟩, ⟨f3, h4, h4'⟩, ⟨f4, h5, h5'⟩, h6, h7⟩ := h
  obtain ⟨⟨jni, jnf, jnm, jln⟩, j1, ⟨g1, j2, j2'⟩, ⟨g2, j3, j3'⟩, ⟨g3, j4, j4'⟩, ⟨g4, j5, j5'⟩, j6, j7⟩ := j
  refine V_aload_n d_Df_hasInterfacesOf_0 rfl ?_
  refine V_getf d_Df_hasInterfacesOf_1 f_Df_18 h1 rfl ?_
  refine V_aload_n d_Df_hasInterfacesOf_4 rfl ?_
  refine V_getf d_Df_hasInterfacesOf_5 f_Df_18 j1 rfl ?_
  refine V_icmp_eqN (tgt := 13) d_Df_hasInterfacesOf_8 (by decide) (by omega) (by omega) (fun hb8 => ?_) (fun hb8 => ?_)
  · refine V_iconst (v := nI 0) d_Df_hasInterfacesOf_13 (by decide +kernel) ?_
    refine V_istore_n d_Df_hasInterfacesOf_14 (Nat.le_of_ble_eq_true rfl) ?_
    show pV Γ _ _ [some (.ref a), some (.ref b), some (.int (nI 0))] _ _ _ _ _ _
    have he : dNi D = dNi E := hb8
    have loop : ∀ (d i : Nat), i ≤ dNi D → dNi D - i < d → (∀ k, k < i → ∃ m, m < dNi E ∧ dI E m = dI D k) → pV Γ m_Df_hasInterfacesOf 15 [some (.ref a), some (.ref b), some (.int (nI i))] [] n G 0 0 Q := by
      intro d
      induction d with
      | zero => intro i _ hd; exact absurd hd (by omega)
      | succ d ih =>
        intro i hi hd hv
        refine V_iload_n d_Df_hasInterfacesOf_15 rfl ?_
        refine V_aload_n d_Df_hasInterfacesOf_16 rfl ?_
        refine V_getf d_Df_hasInterfacesOf_17 f_Df_18 h1 rfl ?_
        refine V_icmp_geN (tgt := 44) d_Df_hasInterfacesOf_20 (by decide) (by omega) (by omega) (fun hb20 => ?_) (fun hb20 => ?_)
        · refine V_iconst (v := nI 1) d_Df_hasInterfacesOf_44 (by decide +kernel) ?_
          exact V_zreturn d_Df_hasInterfacesOf_45 rfl (by first | exact pB_or _ | exact Or.inl rfl | exact Or.inr rfl) (pQ_t hQ ⟨he, fun k hk => hv k (by omega)⟩)
        · refine V_aload_n d_Df_hasInterfacesOf_23 rfl ?_
          refine V_aload_n d_Df_hasInterfacesOf_24 rfl ?_
          refine V_getf d_Df_hasInterfacesOf_25 f_Df_15 h1 rfl ?_
          refine V_iload_n d_Df_hasInterfacesOf_28 rfl ?_
          refine V_iaload (j := i) d_Df_hasInterfacesOf_29 rfl h3 rfl (by omega) (by omega) ?_
          rw [h3' i (by omega)]
          refine V_callV (As := [.int ((dI D i))]) (rest := []) (lo' := [some (.ref b), some (.int ((dI D i))), none]) (bc1 := 0) (bs1 := 0) (bc' := 0) (bs' := 0) d_Df_hasInterfacesOf_30 k_Df_hasInterfacesOf_64 j1 rfl rfl rfl rfl (by rfl) (by rfl) ?_
          refine c_Df_hasInterface hE ?_
          show pV Γ m_Df_hasInterfacesOf 33 [some (.ref a), some (.ref b), some (.int (nI i))] [.int (pB (∃ m, m < dNi E ∧ dI E m = dI D i))] _ G 0 0 Q
          refine V_if_neB (tgt := 38) d_Df_hasInterfacesOf_33 (by decide) (fun hb33 => ?_) (fun hb33 => ?_)
          · refine V_iincN d_Df_hasInterfacesOf_38 rfl ?_
            show pV Γ _ _ [some (.ref a), some (.ref b), some (.int (nI (i + 1)))] _ _ _ _ _ _
            refine V_goto (tgt := 15) d_Df_hasInterfacesOf_41 (by decide) ?_
            exact ih (i + 1) (by omega) (by omega) (fun k hk => by
              rcases Nat.lt_or_ge k i with q | q
              · exact hv k q
              · rw [show k = i by omega]; exact hb33)
          · refine V_iconst (v := nI 0) d_Df_hasInterfacesOf_36 (by decide +kernel) ?_
            exact V_zreturn d_Df_hasInterfacesOf_37 rfl (by first | exact pB_or _ | exact Or.inl rfl | exact Or.inr rfl) (pQ_f hQ (fun e => hb33 (e.2 i (by omega))))
    exact loop (dNi D + 1) 0 (by omega) (by omega) (fun k hk => absurd hk (by omega))
  · refine V_iconst (v := nI 0) d_Df_hasInterfacesOf_11 (by decide +kernel) ?_
    exact V_zreturn d_Df_hasInterfacesOf_12 rfl (by first | exact pB_or _ | exact Or.inl rfl | exact Or.inr rfl) (pQ_f hQ (fun e => hb8 e.1))
set_option maxHeartbeats 1000000 in
theorem c_Df_hasMethodNamesOf {Γ : pmE} {G : pmG} {n : Nat} {Q : pmPost} {a b : Nat} {D E : Dfn} (h : isDef G a D) (j : isDef G b E) (hQ : Q (some (.int (pB (∀ k, k < dNm E → ∃ m, m < dNm D ∧ dN D m = dN E k)))) n G) : pV Γ m_Df_hasMethodNamesOf 0 [some (.ref a), some (.ref b), none] [] n G 0 0 Q := by
  have hD := h
  obtain ⟨⟨hni, hnf, hnm, hln⟩, h1, ⟨f1, h2, h2'⟩, ⟨f2, h3, h3'⟩, ⟨f3, h4, h4'⟩, ⟨f4, h5, h5'⟩, h6, h7⟩ := h
  obtain ⟨⟨jni, jnf, jnm, jln⟩, j1, ⟨g1, j2, j2'⟩, ⟨g2, j3, j3'⟩, ⟨g3, j4, j4'⟩, ⟨g4, j5, j5'⟩, j6, j7⟩ := j
  have loop : ∀ (d i : Nat), i ≤ dNm E → dNm E - i < d → (∀ k, k < i → ∃ m, m < dNm D ∧ dN D m = dN E k) → pV Γ m_Df_hasMethodNamesOf 2 [some (.ref a), some (.ref b), some (.int (nI i))] [] n G 0 0 Q := by
    intro d
    induction d with
    | zero => intro i _ hd; exact absurd hd (by omega)
    | succ d ih =>
      intro i hi hd hv
      refine V_iload_n d_Df_hasMethodNamesOf_2 rfl ?_
      refine V_aload_n d_Df_hasMethodNamesOf_3 rfl ?_
      refine V_getf d_Df_hasMethodNamesOf_4 f_Df_34 j1 rfl ?_
      refine V_icmp_geN (tgt := 34) d_Df_hasMethodNamesOf_7 (by decide) (by omega) (by omega) (fun hb7 => ?_) (fun hb7 => ?_)
      · refine V_iconst (v := nI 1) d_Df_hasMethodNamesOf_34 (by decide +kernel) ?_
        exact V_zreturn d_Df_hasMethodNamesOf_35 rfl (by first | exact pB_or _ | exact Or.inl rfl | exact Or.inr rfl) (pQ_t hQ (fun k hk => hv k (by omega)))
      · refine V_aload_n d_Df_hasMethodNamesOf_10 rfl ?_
        refine V_aload_n d_Df_hasMethodNamesOf_11 rfl ?_
        refine V_getf d_Df_hasMethodNamesOf_12 f_Df_30 j1 rfl ?_
        refine V_iload_n d_Df_hasMethodNamesOf_15 rfl ?_
        refine V_aaload (j := i) d_Df_hasMethodNamesOf_16 rfl j5 rfl (by omega) (by omega) ?_
        rw [j5' i (by omega)]
        show pV Γ _ _ _ (.ref (b + 5 + 3 * i) :: _) _ _ _ _ _
        refine V_getf d_Df_hasMethodNamesOf_17 f_Df_51 (j7 i (by omega)).1 rfl ?_
        refine V_callV (As := [.int (dN E i)]) (rest := []) (lo' := [some (.ref a), some (.int (dN E i)), none]) (bc1 := 0) (bs1 := 0) (bc' := 0) (bs' := 0) d_Df_hasMethodNamesOf_20 k_Df_hasMethodNamesOf_68 h1 rfl rfl rfl rfl (by rfl) (by rfl) ?_
        refine c_Df_findMethod hD (fun hn => ?_) (fun k hk he hf => ?_)
        · show pV Γ m_Df_hasMethodNamesOf 23 [some (.ref a), some (.ref b), some (.int (nI i))] [.null] _ G 0 0 Q
          refine V_ifnonnullN d_Df_hasMethodNamesOf_23 ?_
          refine V_iconst (v := nI 0) d_Df_hasMethodNamesOf_26 (by decide +kernel) ?_
          exact V_zreturn d_Df_hasMethodNamesOf_27 rfl (by first | exact pB_or _ | exact Or.inl rfl | exact Or.inr rfl) (pQ_f hQ (fun e => by obtain ⟨m, hm, em⟩ := e i (by omega); exact hn m hm em))
        · show pV Γ m_Df_hasMethodNamesOf 23 [some (.ref a), some (.ref b), some (.int (nI i))] [.ref (a + 5 + 3 * k)] _ G 0 0 Q
          refine V_ifnonnull (tgt := 28) d_Df_hasMethodNamesOf_23 (by decide) ?_
          refine V_iincN d_Df_hasMethodNamesOf_28 rfl ?_
          show pV Γ _ _ [some (.ref a), some (.ref b), some (.int (nI (i + 1)))] _ _ _ _ _ _
          refine V_goto (tgt := 2) d_Df_hasMethodNamesOf_31 (by decide) ?_
          exact ih (i + 1) (by omega) (by omega) (fun k' hk' => by
            rcases Nat.lt_or_ge k' i with q | q
            · exact hv k' q
            · rw [show k' = i by omega]; exact ⟨k, hk, he⟩)
  refine V_iconst (v := nI 0) d_Df_hasMethodNamesOf_0 (by decide +kernel) ?_
  refine V_istore_n d_Df_hasMethodNamesOf_1 (Nat.le_of_ble_eq_true rfl) ?_
  show pV Γ _ _ [some (.ref a), some (.ref b), some (.int (nI 0))] _ _ _ _ _ _
  exact loop (dNm E + 1) 0 (by omega) (by omega) (fun k hk => absurd hk (by omega))
def dFst (D : Dfn) (x : Int32) (j : Nat) : Prop := j < dNm D ∧ dN D j = x ∧ ∀ i, i < j → dN D i ≠ x
set_option maxHeartbeats 1000000 in
theorem c_Df_hasMethodFlagsOf {Γ : pmE} {G : pmG} {n : Nat} {Q : pmPost} {a b : Nat} {D E : Dfn} (h : isDef G a D) (j : isDef G b E) (hQ : Q (some (.int (pB (∀ k, k < dNm E → ∀ m, dFst D (dN E k) m → dG D m = dG E k)))) n G) : pV Γ m_Df_hasMethodFlagsOf 0 [some (.ref a), some (.ref b), none, none] [] n G 0 0 Q := by
  have hD := h
  obtain ⟨⟨hni, hnf, hnm, hln⟩, h1, ⟨f1, h2, h2'⟩, ⟨f2, h3, h3'⟩, ⟨f3, h4, h4'⟩, ⟨f4, h5, h5'⟩, h6, h7⟩ := h
  obtain ⟨⟨jni, jnf, jnm, jln⟩, j1, ⟨g1, j2, j2'⟩, ⟨g2, j3, j3'⟩, ⟨g3, j4, j4'⟩, ⟨g4, j5, j5'⟩, j6, j7⟩ := j
  have loop : ∀ (d i : Nat), i ≤ dNm E → dNm E - i < d → ∀ w : Option Value, (∀ k, k < i → ∀ m, dFst D (dN E k) m → dG D m = dG E k) → pV Γ m_Df_hasMethodFlagsOf 2 [some (.ref a), some (.ref b), some (.int (nI i)), w] [] n G 0 0 Q := by
    intro d
    induction d with
    | zero => intro i _ hd; exact absurd hd (by omega)
    | succ d ih =>
      intro i hi hd w hv
      refine V_iload_n d_Df_hasMethodFlagsOf_2 rfl ?_
      refine V_aload_n d_Df_hasMethodFlagsOf_3 rfl ?_
      refine V_getf d_Df_hasMethodFlagsOf_4 f_Df_34 j1 rfl ?_
      refine V_icmp_geN (tgt := 52) d_Df_hasMethodFlagsOf_7 (by decide) (by omega) (by omega) (fun hb7 => ?_) (fun hb7 => ?_)
      · refine V_iconst (v := nI 1) d_Df_hasMethodFlagsOf_52 (by decide +kernel) ?_
        exact V_zreturn d_Df_hasMethodFlagsOf_53 rfl (by first | exact pB_or _ | exact Or.inl rfl | exact Or.inr rfl) (pQ_t hQ (fun k hk => hv k (by omega)))
      · refine V_aload_n d_Df_hasMethodFlagsOf_10 rfl ?_
        refine V_aload_n d_Df_hasMethodFlagsOf_11 rfl ?_
        refine V_getf d_Df_hasMethodFlagsOf_12 f_Df_30 j1 rfl ?_
        refine V_iload_n d_Df_hasMethodFlagsOf_15 rfl ?_
        refine V_aaload (j := i) d_Df_hasMethodFlagsOf_16 rfl j5 rfl (by omega) (by omega) ?_
        rw [j5' i (by omega)]
        show pV Γ _ _ _ (.ref (b + 5 + 3 * i) :: _) _ _ _ _ _
        refine V_getf d_Df_hasMethodFlagsOf_17 f_Df_51 (j7 i (by omega)).1 rfl ?_
        refine V_callV (As := [.int (dN E i)]) (rest := []) (lo' := [some (.ref a), some (.int (dN E i)), none]) (bc1 := 0) (bs1 := 0) (bc' := 0) (bs' := 0) d_Df_hasMethodFlagsOf_20 k_Df_hasMethodFlagsOf_68 h1 rfl rfl rfl rfl (by rfl) (by rfl) ?_
        refine c_Df_findMethod hD (fun hn => ?_) (fun k hk he hf => ?_)
        · show pV Γ m_Df_hasMethodFlagsOf 23 [some (.ref a), some (.ref b), some (.int (nI i)), w] [.null] _ G 0 0 Q
          refine V_astore_nN d_Df_hasMethodFlagsOf_23 (Nat.le_of_ble_eq_true rfl) ?_
          show pV Γ _ _ [some (.ref a), some (.ref b), some (.int (nI i)), some (.null)] _ _ _ _ _ _
          refine V_aload_nN d_Df_hasMethodFlagsOf_24 rfl ?_
          refine V_ifnullN (tgt := 46) d_Df_hasMethodFlagsOf_25 (by decide) ?_
          refine V_iincN d_Df_hasMethodFlagsOf_46 rfl ?_
          show pV Γ _ _ [some (.ref a), some (.ref b), some (.int (nI (i + 1))), some (.null)] _ _ _ _ _ _
          refine V_goto (tgt := 2) d_Df_hasMethodFlagsOf_49 (by decide) ?_
          exact ih (i + 1) (by omega) (by omega) _ (fun k' hk' m hm => by
            rcases Nat.lt_or_ge k' i with q | q
            · exact hv k' q m hm
            · have e0 : k' = i := by omega
              subst e0
              exact absurd hm.2.1 (hn m hm.1))
        · show pV Γ m_Df_hasMethodFlagsOf 23 [some (.ref a), some (.ref b), some (.int (nI i)), w] [.ref (a + 5 + 3 * k)] _ G 0 0 Q
          refine V_astore_n d_Df_hasMethodFlagsOf_23 (Nat.le_of_ble_eq_true rfl) ?_
          show pV Γ _ _ [some (.ref a), some (.ref b), some (.int (nI i)), some (.ref (a + 5 + 3 * k))] _ _ _ _ _ _
          refine V_aload_n d_Df_hasMethodFlagsOf_24 rfl ?_
          refine V_ifnull d_Df_hasMethodFlagsOf_25 ?_
          refine V_aload_n d_Df_hasMethodFlagsOf_28 rfl ?_
          refine V_getf d_Df_hasMethodFlagsOf_29 f_Df_54 (h7 k (by omega)).1 rfl ?_
          refine V_aload_n d_Df_hasMethodFlagsOf_32 rfl ?_
          refine V_getf d_Df_hasMethodFlagsOf_33 f_Df_30 j1 rfl ?_
          refine V_iload_n d_Df_hasMethodFlagsOf_36 rfl ?_
          refine V_aaload (j := i) d_Df_hasMethodFlagsOf_37 rfl j5 rfl (by omega) (by omega) ?_
          rw [j5' i (by omega)]
          show pV Γ _ _ _ (.ref (b + 5 + 3 * i) :: _) _ _ _ _ _
          refine V_getf d_Df_hasMethodFlagsOf_38 f_Df_54 (j7 i (by omega)).1 rfl ?_
          refine V_icmp_eq (tgt := 46) d_Df_hasMethodFlagsOf_41 (by decide) (fun hb41 => ?_) (fun hb41 => ?_)
          · refine V_iincN d_Df_hasMethodFlagsOf_46 rfl ?_
            show pV Γ _ _ [some (.ref a), some (.ref b), some (.int (nI (i + 1))), some (.ref (a + 5 + 3 * k))] _ _ _ _ _ _
            refine V_goto (tgt := 2) d_Df_hasMethodFlagsOf_49 (by decide) ?_
            exact ih (i + 1) (by omega) (by omega) _ (fun k' hk' m hm => by
              rcases Nat.lt_or_ge k' i with q | q
              · exact hv k' q m hm
              · have e0 : k' = i := by omega
                subst e0
                have e1 : m = k := by
                  rcases Nat.lt_trichotomy m k with q | q | q
                  · exact absurd hm.2.1 (hf m q)
                  · exact q
                  · exact absurd he (hm.2.2 k q)
                rw [e1]; exact hb41)
          · refine V_iconst (v := nI 0) d_Df_hasMethodFlagsOf_44 (by decide +kernel) ?_
            exact V_zreturn d_Df_hasMethodFlagsOf_45 rfl (by first | exact pB_or _ | exact Or.inl rfl | exact Or.inr rfl) (pQ_f hQ (fun e => hb41 (e i (by omega) k ⟨hk, he, hf⟩)))
  refine V_iconst (v := nI 0) d_Df_hasMethodFlagsOf_0 (by decide +kernel) ?_
  refine V_istore_n d_Df_hasMethodFlagsOf_1 (Nat.le_of_ble_eq_true rfl) ?_
  show pV Γ _ _ [some (.ref a), some (.ref b), some (.int (nI 0)), none] _ _ _ _ _ _
  exact loop (dNm E + 1) 0 (by omega) (by omega) _ (fun k hk => absurd hk (by omega))
end
section
/-! Definition: what changes it, and its constructor. -/
def dBlk : Dfn := (fun k => if k = 0 then nI 1 else if k = 2 then -1 else nI 0, (0, fun _ => 0), (0, fun _ => 0), 0, fun _ => 0, fun _ => 0, fun _ => 0, fun _ _ => 0)
def dAddI (D : Dfn) (x : Int32) : Dfn := (dP D, (dNi D + 1, upd (dI D) (dNi D) x), (dNf D, dF D), dNm D, dN D, dG D, dL D, dC D)
def dAddF (D : Dfn) (x y z : Int32) : Dfn := (dP D, (dNi D, dI D), (dNf D + 1, upd (upd (upd (dF D) (dNf D * 3) x) (dNf D * 3 + 1) y) (dNf D * 3 + 2) z), dNm D, dN D, dG D, dL D, dC D)
def dAddM (D : Dfn) (x y : Int32) : Dfn := (dP D, (dNi D, dI D), (dNf D, dF D), dNm D + 1, upd (dN D) (dNm D) x, upd (dG D) (dNm D) y, va_up (dL D) (dNm D) 0, dC D)
set_option maxHeartbeats 1000000 in
theorem c_Df_clear {Γ : pmE} {G : pmG} {n : Nat} {Q : pmPost} {a : Nat} {D : Dfn} (h : isDef G a D) (hQ : ∀ G', isDef G' a dBlk → (∀ q, (q < a ∨ a + 17 ≤ q) → G' q = G q) → Q none n G') : pV Γ m_Df_clear 0 [some (.ref a)] [] n G 0 0 Q := by
  obtain ⟨⟨hni, hnf, hnm, hln⟩, h1, ⟨f1, h2, h2'⟩, ⟨f2, h3, h3'⟩, ⟨f3, h4, h4'⟩, ⟨f4, h5, h5'⟩, h6, h7⟩ := h
  refine V_aload_n d_Df_clear_0 rfl ?_
  refine V_getf d_Df_clear_1 f_Df_9 h1 rfl ?_
  refine V_iconst (v := nI 0) d_Df_clear_4 (by decide +kernel) ?_
  refine V_iconst (v := nI 1) d_Df_clear_5 (by decide +kernel) ?_
  refine V_iastore (j := 0) d_Df_clear_6 rfl h2 rfl (by omega) (by omega) (fun G1 h2z ho1 => ?_)
  have h2 := h2z
  have h1 := (ho1 _ (by omega)).trans h1
  refine V_aload_n d_Df_clear_7 rfl ?_
  refine V_getf d_Df_clear_8 f_Df_9 h1 rfl ?_
  refine V_iconst (v := nI 1) d_Df_clear_11 (by decide +kernel) ?_
  refine V_iconst (v := nI 0) d_Df_clear_12 (by decide +kernel) ?_
  refine V_iastore (j := 1) d_Df_clear_13 rfl h2 rfl (by omega) (by omega) (fun G2 h2z ho2 => ?_)
  have h2 := h2z
  have h1 := (ho2 _ (by omega)).trans h1
  refine V_aload_n d_Df_clear_14 rfl ?_
  refine V_getf d_Df_clear_15 f_Df_9 h1 rfl ?_
  refine V_iconst (v := nI 2) d_Df_clear_18 (by decide +kernel) ?_
  refine V_iconst (v := (-1)) d_Df_clear_19 (by decide +kernel) ?_
  refine V_iastore (j := 2) d_Df_clear_20 rfl h2 rfl (by omega) (by omega) (fun G3 h2z ho3 => ?_)
  have h2 := h2z
  have h1 := (ho3 _ (by omega)).trans h1
  refine V_aload_n d_Df_clear_21 rfl ?_
  refine V_getf d_Df_clear_22 f_Df_9 h1 rfl ?_
  refine V_iconst (v := nI 3) d_Df_clear_25 (by decide +kernel) ?_
  refine V_iconst (v := nI 0) d_Df_clear_26 (by decide +kernel) ?_
  refine V_iastore (j := 3) d_Df_clear_27 rfl h2 rfl (by omega) (by omega) (fun G4 h2z ho4 => ?_)
  have h2 := h2z
  have h1 := (ho4 _ (by omega)).trans h1
  refine V_aload_n d_Df_clear_28 rfl ?_
  refine V_getf d_Df_clear_29 f_Df_9 h1 rfl ?_
  refine V_iconst (v := nI 4) d_Df_clear_32 (by decide +kernel) ?_
  refine V_iconst (v := nI 0) d_Df_clear_33 (by decide +kernel) ?_
  refine V_iastore (j := 4) d_Df_clear_34 rfl h2 rfl (by omega) (by omega) (fun G5 h2z ho5 => ?_)
  have h2 := h2z
  have h1 := (ho5 _ (by omega)).trans h1
  refine V_aload_n d_Df_clear_35 rfl ?_
  refine V_iconst (v := nI 0) d_Df_clear_36 (by decide +kernel) ?_
  refine V_putf d_Df_clear_37 f_Df_18 p_Df_18 h1 rfl rfl rfl (fun G6 h1z ho6 => ?_)
  have h1 : G6 a = some (.inr (kDf, [.ref (a + 1), .ref (a + 2), .int (nI 0), .ref (a + 3), .int (nI (dNf D)), .ref (a + 4), .int (nI (dNm D))])) := h1z
  have h2 := (ho6 _ (by omega)).trans h2
  refine V_aload_n d_Df_clear_40 rfl ?_
  refine V_iconst (v := nI 0) d_Df_clear_41 (by decide +kernel) ?_
  refine V_putf d_Df_clear_42 f_Df_25 p_Df_25 h1 rfl rfl rfl (fun G7 h1z ho7 => ?_)
  have h1 : G7 a = some (.inr (kDf, [.ref (a + 1), .ref (a + 2), .int (nI 0), .ref (a + 3), .int (nI 0), .ref (a + 4), .int (nI (dNm D))])) := h1z
  have h2 := (ho7 _ (by omega)).trans h2
  refine V_aload_n d_Df_clear_45 rfl ?_
  refine V_iconst (v := nI 0) d_Df_clear_46 (by decide +kernel) ?_
  refine V_putf d_Df_clear_47 f_Df_34 p_Df_34 h1 rfl rfl rfl (fun G8 h1z ho8 => ?_)
  have h1 : G8 a = some (.inr (kDf, [.ref (a + 1), .ref (a + 2), .int (nI 0), .ref (a + 3), .int (nI 0), .ref (a + 4), .int (nI 0)])) := h1z
  have h2 := (ho8 _ (by omega)).trans h2
  have hE : ∀ q, q ≠ a → q ≠ a + 1 → G8 q = G q := fun q g1 g2 => by rw [ho8 q g1, ho7 q g1, ho6 q g1, ho5 q g2, ho4 q g2, ho3 q g2, ho2 q g2, ho1 q g2]
  refine V_return d_Df_clear_50 rfl (hQ G8 ⟨⟨by decide, by decide, by decide, fun j hj => absurd hj (Nat.not_lt_zero j)⟩, h1, ⟨_, h2, fun k hk => ?_⟩, ⟨f2, by rw [hE _ (by omega) (by omega)]; exact h3, fun k hk => absurd hk (Nat.not_lt_zero k)⟩, ⟨f3, by rw [hE _ (by omega) (by omega)]; exact h4, fun k hk => absurd hk (Nat.not_lt_zero k)⟩, ⟨f4, by rw [hE _ (by omega) (by omega)]; exact h5, h5'⟩, fun j hj => (h6 j hj).kept fun q g1 g2 => hE q (by omega) (by omega), fun j hj => absurd hj (Nat.not_lt_zero j)⟩ (fun q hq => hE q (by omega) (by omega)))
  match k, hk with
  | 0, _ => rfl
  | 1, _ => rfl
  | 2, _ => rfl
  | 3, _ => rfl
  | 4, _ => rfl
  | k + 5, h => exact absurd h (by omega)
set_option maxHeartbeats 1000000 in
theorem c_Df_addInterface {Γ : pmE} {G : pmG} {n : Nat} {Q : pmPost} {a : Nat} {D : Dfn} {x : Int32} (h : isDef G a D) (hF : dNi D = 3 → Q (some (.int (nI 0))) n G) (hQ : dNi D < 3 → ∀ G', isDef G' a (dAddI D x) → (∀ q, (q < a ∨ a + 17 ≤ q) → G' q = G q) → Q (some (.int (nI 1))) n G') : pV Γ m_Df_addInterface 0 [some (.ref a), some (.int x)] [] n G 0 0 Q := by
  obtain ⟨⟨hni, hnf, hnm, hln⟩, h1, ⟨f1, h2, h2'⟩, ⟨f2, h3, h3'⟩, ⟨f3, h4, h4'⟩, ⟨f4, h5, h5'⟩, h6, h7⟩ := h
  refine V_aload_n d_Df_addInterface_0 rfl ?_
  refine V_getf d_Df_addInterface_1 f_Df_18 h1 rfl ?_
  refine V_iconst (v := nI 3) d_Df_addInterface_4 (by decide +kernel) ?_
  refine V_icmp_ltN (tgt := 10) d_Df_addInterface_5 (by decide) (by omega) (by omega) (fun hb5 => ?_) (fun hb5 => ?_)
  · refine V_aload_n d_Df_addInterface_10 rfl ?_
    refine V_getf d_Df_addInterface_11 f_Df_15 h1 rfl ?_
    refine V_aload_n d_Df_addInterface_14 rfl ?_
    refine V_getf d_Df_addInterface_15 f_Df_18 h1 rfl ?_
    refine V_iload_n d_Df_addInterface_18 rfl ?_
    refine V_iastore (j := dNi D) d_Df_addInterface_19 rfl h3 rfl (by omega) (by omega) (fun G1 h3z ho1 => ?_)
    have h3 := h3z
    have h1 := (ho1 _ (by omega)).trans h1
    refine V_aload_n d_Df_addInterface_20 rfl ?_
    refine V_dup d_Df_addInterface_21 rfl ?_
    refine V_getf d_Df_addInterface_22 f_Df_18 h1 rfl ?_
    refine V_iconst (v := nI 1) d_Df_addInterface_25 (by decide +kernel) ?_
    refine V_iaddN d_Df_addInterface_26 ?_
    refine V_putf d_Df_addInterface_27 f_Df_18 p_Df_18 h1 rfl rfl rfl (fun G2 h1z ho2 => ?_)
    have h1 : G2 a = some (.inr (kDf, [.ref (a + 1), .ref (a + 2), .int (nI (dNi D + 1)), .ref (a + 3), .int (nI (dNf D)), .ref (a + 4), .int (nI (dNm D))])) := h1z
    have h3 := (ho2 _ (by omega)).trans h3
    refine V_iconst (v := nI 1) d_Df_addInterface_30 (by decide +kernel) ?_
    have hE : ∀ q, q ≠ a → q ≠ a + 2 → G2 q = G q := fun q g1 g2 => by rw [ho2 q g1, ho1 q g2]
    refine V_zreturn d_Df_addInterface_31 rfl (by first | exact pB_or _ | exact Or.inl rfl | exact Or.inr rfl) (hQ (by omega) G2 ⟨⟨by show dNi D + 1 ≤ 3; omega, hnf, hnm, hln⟩, h1, ⟨f1, by rw [hE _ (by omega) (by omega)]; exact h2, h2'⟩, ⟨_, h3, fun k hk => ?_⟩, ⟨f3, by rw [hE _ (by omega) (by omega)]; exact h4, h4'⟩, ⟨f4, by rw [hE _ (by omega) (by omega)]; exact h5, h5'⟩, fun j hj => (h6 j hj).kept fun q g1 g2 => hE q (by omega) (by omega), fun j hj => (h7 j hj).kept fun q g1 g2 => hE q (by have := hj; omega) (by omega)⟩ (fun q hq => hE q (by omega) (by omega)))
    show upd f2 (dNi D) x k = upd (dI D) (dNi D) x k
    by_cases g : k = dNi D
    · rw [g, pk_us, pk_us]
    · rw [pk_un g, pk_un g]; exact h3' k (by have : k < dNi D + 1 := hk; omega)
  · refine V_iconst (v := nI 0) d_Df_addInterface_8 (by decide +kernel) ?_
    exact V_zreturn d_Df_addInterface_9 rfl (by first | exact pB_or _ | exact Or.inl rfl | exact Or.inr rfl) (hF (by omega))
set_option maxHeartbeats 1000000 in
theorem c_Df_addField {Γ : pmE} {G : pmG} {n : Nat} {Q : pmPost} {a : Nat} {D : Dfn} {x y z : Int32} (h : isDef G a D) (hF : dNf D = 4 → Q (some (.int (nI 0))) n G) (hQ : dNf D < 4 → ∀ G', isDef G' a (dAddF D x y z) → (∀ q, (q < a ∨ a + 17 ≤ q) → G' q = G q) → Q (some (.int (nI 1))) n G') : pV Γ m_Df_addField 0 [some (.ref a), some (.int x), some (.int y), some (.int z)] [] n G 0 0 Q := by
  obtain ⟨⟨hni, hnf, hnm, hln⟩, h1, ⟨f1, h2, h2'⟩, ⟨f2, h3, h3'⟩, ⟨f3, h4, h4'⟩, ⟨f4, h5, h5'⟩, h6, h7⟩ := h
  refine V_aload_n d_Df_addField_0 rfl ?_
  refine V_getf d_Df_addField_1 f_Df_25 h1 rfl ?_
  refine V_iconst (v := nI 4) d_Df_addField_4 (by decide +kernel) ?_
  refine V_icmp_ltN (tgt := 10) d_Df_addField_5 (by decide) (by omega) (by omega) (fun hb5 => ?_) (fun hb5 => ?_)
  · refine V_aload_n d_Df_addField_10 rfl ?_
    refine V_getf d_Df_addField_11 f_Df_22 h1 rfl ?_
    refine V_aload_n d_Df_addField_14 rfl ?_
    refine V_getf d_Df_addField_15 f_Df_25 h1 rfl ?_
    refine V_iconst (v := nI 3) d_Df_addField_18 (by decide +kernel) ?_
    refine V_imulN d_Df_addField_19 ?_
    refine V_iload_n d_Df_addField_20 rfl ?_
    refine V_iastore (j := (dNf D) * 3) d_Df_addField_21 rfl h4 rfl (by omega) (by omega) (fun G1 h4z ho1 => ?_)
    have h4 := h4z
    have h1 := (ho1 _ (by omega)).trans h1
    refine V_aload_n d_Df_addField_22 rfl ?_
    refine V_getf d_Df_addField_23 f_Df_22 h1 rfl ?_
    refine V_aload_n d_Df_addField_26 rfl ?_
    refine V_getf d_Df_addField_27 f_Df_25 h1 rfl ?_
    refine V_iconst (v := nI 3) d_Df_addField_30 (by decide +kernel) ?_
    refine V_imulN d_Df_addField_31 ?_
    refine V_iconst (v := nI 1) d_Df_addField_32 (by decide +kernel) ?_
    refine V_iaddN d_Df_addField_33 ?_
    refine V_iload_n d_Df_addField_34 rfl ?_
    refine V_iastore (j := (dNf D) * 3 + 1) d_Df_addField_35 rfl h4 rfl (by omega) (by omega) (fun G2 h4z ho2 => ?_)
    have h4 := h4z
    have h1 := (ho2 _ (by omega)).trans h1
    refine V_aload_n d_Df_addField_36 rfl ?_
    refine V_getf d_Df_addField_37 f_Df_22 h1 rfl ?_
    refine V_aload_n d_Df_addField_40 rfl ?_
    refine V_getf d_Df_addField_41 f_Df_25 h1 rfl ?_
    refine V_iconst (v := nI 3) d_Df_addField_44 (by decide +kernel) ?_
    refine V_imulN d_Df_addField_45 ?_
    refine V_iconst (v := nI 2) d_Df_addField_46 (by decide +kernel) ?_
    refine V_iaddN d_Df_addField_47 ?_
    refine V_iload_n d_Df_addField_48 rfl ?_
    refine V_iastore (j := (dNf D) * 3 + 2) d_Df_addField_49 rfl h4 rfl (by omega) (by omega) (fun G3 h4z ho3 => ?_)
    have h4 := h4z
    have h1 := (ho3 _ (by omega)).trans h1
    refine V_aload_n d_Df_addField_50 rfl ?_
    refine V_dup d_Df_addField_51 rfl ?_
    refine V_getf d_Df_addField_52 f_Df_25 h1 rfl ?_
    refine V_iconst (v := nI 1) d_Df_addField_55 (by decide +kernel) ?_
    refine V_iaddN d_Df_addField_56 ?_
    refine V_putf d_Df_addField_57 f_Df_25 p_Df_25 h1 rfl rfl rfl (fun G4 h1z ho4 => ?_)
    have h1 : G4 a = some (.inr (kDf, [.ref (a + 1), .ref (a + 2), .int (nI (dNi D)), .ref (a + 3), .int (nI (dNf D + 1)), .ref (a + 4), .int (nI (dNm D))])) := h1z
    have h4 := (ho4 _ (by omega)).trans h4
    refine V_iconst (v := nI 1) d_Df_addField_60 (by decide +kernel) ?_
    have hE : ∀ q, q ≠ a → q ≠ a + 3 → G4 q = G q := fun q g1 g2 => by rw [ho4 q g1, ho3 q g2, ho2 q g2, ho1 q g2]
    refine V_zreturn d_Df_addField_61 rfl (by first | exact pB_or _ | exact Or.inl rfl | exact Or.inr rfl) (hQ (by omega) G4 ⟨⟨hni, by show dNf D + 1 ≤ 4; omega, hnm, hln⟩, h1, ⟨f1, by rw [hE _ (by omega) (by omega)]; exact h2, h2'⟩, ⟨f2, by rw [hE _ (by omega) (by omega)]; exact h3, h3'⟩, ⟨_, h4, fun k hk => ?_⟩, ⟨f4, by rw [hE _ (by omega) (by omega)]; exact h5, h5'⟩, fun j hj => (h6 j hj).kept fun q g1 g2 => hE q (by omega) (by omega), fun j hj => (h7 j hj).kept fun q g1 g2 => hE q (by have := hj; omega) (by omega)⟩ (fun q hq => hE q (by omega) (by omega)))
    have hk' : k < 3 * (dNf D + 1) := hk
    show upd (upd (upd f3 (dNf D * 3) x) (dNf D * 3 + 1) y) (dNf D * 3 + 2) z k = upd (upd (upd (dF D) (dNf D * 3) x) (dNf D * 3 + 1) y) (dNf D * 3 + 2) z k
    simp only [upd]
    by_cases g3 : k = dNf D * 3 + 2
    · simp [g3]
    · by_cases g2 : k = dNf D * 3 + 1
      · simp [g2]
      · by_cases g1 : k = dNf D * 3
        · simp [g1]
        · simp [g1, g2, g3]; exact h4' k (by omega)
  · refine V_iconst (v := nI 0) d_Df_addField_8 (by decide +kernel) ?_
    exact V_zreturn d_Df_addField_9 rfl (by first | exact pB_or _ | exact Or.inl rfl | exact Or.inr rfl) (hF (by omega))
set_option maxHeartbeats 1000000 in
theorem c_Df_addMethod {Γ : pmE} {G : pmG} {n : Nat} {Q : pmPost} {a : Nat} {D : Dfn} {x y : Int32} (h : isDef G a D) (hF : dNm D = 4 → Q (some (.int (nI 0))) n G) (hQ : dNm D < 4 → ∀ G', isDef G' a (dAddM D x y) → (∀ q, (q < a ∨ a + 17 ≤ q) → G' q = G q) → Q (some (.int (nI 1))) n G') : pV Γ m_Df_addMethod 0 [some (.ref a), some (.int x), some (.int y), none] [] n G 0 0 Q := by
  obtain ⟨⟨hni, hnf, hnm, hln⟩, h1, ⟨f1, h2, h2'⟩, ⟨f2, h3, h3'⟩, ⟨f3, h4, h4'⟩, ⟨f4, h5, h5'⟩, h6, h7⟩ := h
  have h5k := h5
  refine V_aload_n d_Df_addMethod_0 rfl ?_
  refine V_getf d_Df_addMethod_1 f_Df_34 h1 rfl ?_
  refine V_iconst (v := nI 4) d_Df_addMethod_4 (by decide +kernel) ?_
  refine V_icmp_ltN (tgt := 10) d_Df_addMethod_5 (by decide) (by omega) (by omega) (fun hb5 => ?_) (fun hb5 => ?_)
  · refine V_aload_n d_Df_addMethod_10 rfl ?_
    refine V_getf d_Df_addMethod_11 f_Df_30 h1 rfl ?_
    refine V_aload_n d_Df_addMethod_14 rfl ?_
    refine V_getf d_Df_addMethod_15 f_Df_34 h1 rfl ?_
    refine V_aaload (j := dNm D) d_Df_addMethod_18 rfl h5 rfl (by omega) (by omega) ?_
    rw [h5' (dNm D) (by omega)]
    show pV Γ _ _ _ (.ref (a + 5 + 3 * dNm D) :: _) _ _ _ _ _
    obtain ⟨nm, fl, len, c, hm, hc⟩ := h6 (dNm D) (by omega)
    refine V_astore_n d_Df_addMethod_19 (Nat.le_of_ble_eq_true rfl) ?_
    show pV Γ _ _ [some (.ref a), some (.int x), some (.int y), some (.ref (a + 5 + 3 * dNm D))] _ _ _ _ _ _
    refine V_aload_n d_Df_addMethod_20 rfl ?_
    refine V_iload_n d_Df_addMethod_21 rfl ?_
    refine V_putf d_Df_addMethod_22 f_Df_51 p_Df_51 hm rfl rfl rfl (fun G1 hmz ho1 => ?_)
    have hm : G1 (a + 5 + 3 * dNm D) = some (.inr (kMt, [.int x, .int fl, .ref (a + 5 + 3 * dNm D + 1)])) := hmz
    have h1 := (ho1 _ (by omega)).trans h1
    have h5 := (ho1 _ (by omega)).trans h5
    have hc := hc.kept (fun q g1 g2 => ho1 q (by omega))
    refine V_aload_n d_Df_addMethod_25 rfl ?_
    refine V_iload_n d_Df_addMethod_26 rfl ?_
    refine V_putf d_Df_addMethod_27 f_Df_54 p_Df_54 hm rfl rfl rfl (fun G2 hmz ho2 => ?_)
    have hm : G2 (a + 5 + 3 * dNm D) = some (.inr (kMt, [.int x, .int y, .ref (a + 5 + 3 * dNm D + 1)])) := hmz
    have h1 := (ho2 _ (by omega)).trans h1
    have h5 := (ho2 _ (by omega)).trans h5
    have hc := hc.kept (fun q g1 g2 => ho2 q (by omega))
    refine V_aload_n d_Df_addMethod_30 rfl ?_
    refine V_getf d_Df_addMethod_31 f_Df_57 hm rfl ?_
    refine V_callV (As := []) (rest := []) (lo' := [some (.ref (a + 5 + 3 * dNm D + 1))]) (bc1 := 0) (bs1 := 0) (bc' := 0) (bs' := 0) d_Df_addMethod_34 k_Df_addMethod_61 hc.2.1 rfl rfl rfl rfl (by rfl) (by rfl) ?_
    refine c_Cd_clear hc (fun G3 hc ho3 => ?_)
    have h1 := (ho3 _ (by omega)).trans h1
    have h5 := (ho3 _ (by omega)).trans h5
    have hm := (ho3 _ (by omega)).trans hm
    show pV Γ m_Df_addMethod 37 [some (.ref a), some (.int x), some (.int y), some (.ref (a + 5 + 3 * dNm D))] [] _ G3 0 0 Q
    refine V_aload_n d_Df_addMethod_37 rfl ?_
    refine V_dup d_Df_addMethod_38 rfl ?_
    refine V_getf d_Df_addMethod_39 f_Df_34 h1 rfl ?_
    refine V_iconst (v := nI 1) d_Df_addMethod_42 (by decide +kernel) ?_
    refine V_iaddN d_Df_addMethod_43 ?_
    refine V_putf d_Df_addMethod_44 f_Df_34 p_Df_34 h1 rfl rfl rfl (fun G4 h1z ho4 => ?_)
    have h1 : G4 a = some (.inr (kDf, [.ref (a + 1), .ref (a + 2), .int (nI (dNi D)), .ref (a + 3), .int (nI (dNf D)), .ref (a + 4), .int (nI (dNm D + 1))])) := h1z
    have h5 := (ho4 _ (by omega)).trans h5
    have hm := (ho4 _ (by omega)).trans hm
    have hc := hc.kept (fun q g1 g2 => ho4 q (by omega))
    refine V_iconst (v := nI 1) d_Df_addMethod_47 (by decide +kernel) ?_
    have hE : ∀ q, (q ≠ a ∧ (q < a + 5 + 3 * dNm D ∨ a + 5 + 3 * dNm D + 3 ≤ q)) → G4 q = G q := fun q g => by rw [ho4 q (by omega), ho3 q (by omega), ho2 q (by omega), ho1 q (by omega)]
    refine V_zreturn d_Df_addMethod_48 rfl (by first | exact pB_or _ | exact Or.inl rfl | exact Or.inr rfl) (hQ (by omega) G4 ⟨⟨hni, hnf, by show dNm D + 1 ≤ 4; omega, fun j hj => ?_⟩, h1, ⟨f1, by rw [hE _ (by omega)]; exact h2, h2'⟩, ⟨f2, by rw [hE _ (by omega)]; exact h3, h3'⟩, ⟨f3, by rw [hE _ (by omega)]; exact h4, h4'⟩, ⟨f4, by rw [hE _ (by omega)]; exact h5k, h5'⟩, fun j hj => ?_, fun j hj => ?_⟩ (fun q hq => hE q (by omega)))
    · have hj' : j < dNm D + 1 := hj
      show va_up (dL D) (dNm D) 0 j ≤ 6
      by_cases g : j = dNm D
      · rw [g, va_up_self]; omega
      · rw [va_up_ne _ _ g]; exact hln j (by omega)
    · by_cases g : j = dNm D
      · subst g; exact ⟨_, _, _, _, hm, hc⟩
      · exact (h6 j hj).kept fun q g1 g2 => hE q (by omega)
    · have hj' : j < dNm D + 1 := hj
      show isMth G4 _ (upd (dN D) (dNm D) x j) (upd (dG D) (dNm D) y j) (va_up (dL D) (dNm D) 0 j) (dC D j)
      by_cases g : j = dNm D
      · rw [g, pk_us, pk_us, va_up_self]; exact ⟨hm, hc.congr (fun k hk => absurd hk (by omega))⟩
      · rw [pk_un g, pk_un g, va_up_ne _ _ g]; exact (h7 j (by omega)).kept fun q g1 g2 => hE q (by omega)
  · refine V_iconst (v := nI 0) d_Df_addMethod_8 (by decide +kernel) ?_
    exact V_zreturn d_Df_addMethod_9 rfl (by first | exact pB_or _ | exact Or.inl rfl | exact Or.inr rfl) (hF (by omega))
set_option maxHeartbeats 1000000 in
theorem c_Df_init {Γ : pmE} {G : pmG} {n : Nat} {Q : pmPost} (h1 : G n = some (.inr (kDf, [.null, .null, .int 0, .null, .int 0, .null, .int 0]))) (hQ : ∀ G', isDef G' n dBlk → (∀ q, (q < n ∨ n + 17 ≤ q) → G' q = G q) → Q none (n + 17) G') : pV Γ m_Df_init 0 [some (.ref n), none] [] (n + 1) G 16 116 Q := by
  refine V_aload_n d_Df_init_0 rfl ?_
  refine V_objInit d_Df_init_1 w_28 w_21 w_22 (by decide +kernel) rfl ?_
  refine V_aload_n d_Df_init_4 rfl ?_
  refine V_iconst (v := nI 5) d_Df_init_5 (by decide +kernel) ?_
  refine V_newi (N := 5) d_Df_init_6 rfl (by decide) w_51 rfl (by rfl) (by rfl) (fun G1 hn1 ho1 => ?_)
  have hn1 : G1 (n + 1) = some (.inl (0, 5, .inl (fun _ => 0))) := hn1
  show pV Γ _ _ _ (.ref (n + 1) :: _) (n + 2) _ _ _ _
  have h1 := (ho1 _ (by omega)).trans h1
  refine V_putF d_Df_init_8 p_Df_9 rfl h1 rfl rfl rfl (fun G2 h1z ho2 => ?_)
  have h1 : G2 n = some (.inr (kDf, [.ref (n + 1), .null, .int 0, .null, .int 0, .null, .int 0])) := h1z
  have hn1 := (ho2 _ (by omega)).trans hn1
  refine V_aload_n d_Df_init_11 rfl ?_
  refine V_iconst (v := nI 3) d_Df_init_12 (by decide +kernel) ?_
  refine V_newi (N := 3) d_Df_init_13 rfl (by decide) w_51 rfl (by rfl) (by rfl) (fun G3 hn3 ho3 => ?_)
  have hn3 : G3 (n + 2) = some (.inl (0, 3, .inl (fun _ => 0))) := hn3
  show pV Γ _ _ _ (.ref (n + 2) :: _) (n + 3) _ _ _ _
  have h1 := (ho3 _ (by omega)).trans h1
  have hn1 := (ho3 _ (by omega)).trans hn1
  refine V_putF d_Df_init_15 p_Df_15 rfl h1 rfl rfl rfl (fun G4 h1z ho4 => ?_)
  have h1 : G4 n = some (.inr (kDf, [.ref (n + 1), .ref (n + 2), .int 0, .null, .int 0, .null, .int 0])) := h1z
  have hn1 := (ho4 _ (by omega)).trans hn1
  have hn3 := (ho4 _ (by omega)).trans hn3
  refine V_aload_n d_Df_init_18 rfl ?_
  refine V_iconst (v := nI 0) d_Df_init_19 (by decide +kernel) ?_
  refine V_putf d_Df_init_20 f_Df_18 p_Df_18 h1 rfl rfl rfl (fun G5 h1z ho5 => ?_)
  have h1 : G5 n = some (.inr (kDf, [.ref (n + 1), .ref (n + 2), .int (nI 0), .null, .int 0, .null, .int 0])) := h1z
  have hn1 := (ho5 _ (by omega)).trans hn1
  have hn3 := (ho5 _ (by omega)).trans hn3
  refine V_aload_n d_Df_init_23 rfl ?_
  refine V_bipush (v := nI 12) d_Df_init_24 (by decide +kernel) ?_
  refine V_newi (N := 12) d_Df_init_26 rfl (by decide) w_51 rfl (by rfl) (by rfl) (fun G6 hn6 ho6 => ?_)
  have hn6 : G6 (n + 3) = some (.inl (0, 12, .inl (fun _ => 0))) := hn6
  show pV Γ _ _ _ (.ref (n + 3) :: _) (n + 4) _ _ _ _
  have h1 := (ho6 _ (by omega)).trans h1
  have hn1 := (ho6 _ (by omega)).trans hn1
  have hn3 := (ho6 _ (by omega)).trans hn3
  refine V_putF d_Df_init_28 p_Df_22 rfl h1 rfl rfl rfl (fun G7 h1z ho7 => ?_)
  have h1 : G7 n = some (.inr (kDf, [.ref (n + 1), .ref (n + 2), .int (nI 0), .ref (n + 3), .int 0, .null, .int 0])) := h1z
  have hn1 := (ho7 _ (by omega)).trans hn1
  have hn3 := (ho7 _ (by omega)).trans hn3
  have hn6 := (ho7 _ (by omega)).trans hn6
  refine V_aload_n d_Df_init_31 rfl ?_
  refine V_iconst (v := nI 0) d_Df_init_32 (by decide +kernel) ?_
  refine V_putf d_Df_init_33 f_Df_25 p_Df_25 h1 rfl rfl rfl (fun G8 h1z ho8 => ?_)
  have h1 : G8 n = some (.inr (kDf, [.ref (n + 1), .ref (n + 2), .int (nI 0), .ref (n + 3), .int (nI 0), .null, .int 0])) := h1z
  have hn1 := (ho8 _ (by omega)).trans hn1
  have hn3 := (ho8 _ (by omega)).trans hn3
  have hn6 := (ho8 _ (by omega)).trans hn6
  refine V_aload_n d_Df_init_36 rfl ?_
  refine V_iconst (v := nI 4) d_Df_init_37 (by decide +kernel) ?_
  refine V_anew (k := 10) (N := 4) d_Df_init_38 rfl (by decide) w_29 w_30 rfl (by rfl) (by rfl) (fun G9 hn9 ho9 => ?_)
  have hn9 : G9 (n + 4) = some (.inl (10, 4, .inr (.inr (.inr (.inr (fun _ => none)))))) := hn9
  show pV Γ _ _ _ (.ref (n + 4) :: _) (n + 5) _ _ _ _
  have h1 := (ho9 _ (by omega)).trans h1
  have hn1 := (ho9 _ (by omega)).trans hn1
  have hn3 := (ho9 _ (by omega)).trans hn3
  have hn6 := (ho9 _ (by omega)).trans hn6
  refine V_putF d_Df_init_41 p_Df_30 rfl h1 rfl rfl rfl (fun G10 h1z ho10 => ?_)
  have h1 : G10 n = some (.inr (kDf, [.ref (n + 1), .ref (n + 2), .int (nI 0), .ref (n + 3), .int (nI 0), .ref (n + 4), .int 0])) := h1z
  have hn1 := (ho10 _ (by omega)).trans hn1
  have hn3 := (ho10 _ (by omega)).trans hn3
  have hn6 := (ho10 _ (by omega)).trans hn6
  have hn9 := (ho10 _ (by omega)).trans hn9
  refine V_aload_n d_Df_init_44 rfl ?_
  refine V_iconst (v := nI 0) d_Df_init_45 (by decide +kernel) ?_
  refine V_putf d_Df_init_46 f_Df_34 p_Df_34 h1 rfl rfl rfl (fun G11 h1z ho11 => ?_)
  have h1 : G11 n = some (.inr (kDf, [.ref (n + 1), .ref (n + 2), .int (nI 0), .ref (n + 3), .int (nI 0), .ref (n + 4), .int (nI 0)])) := h1z
  have hn1 := (ho11 _ (by omega)).trans hn1
  have hn3 := (ho11 _ (by omega)).trans hn3
  have hn6 := (ho11 _ (by omega)).trans hn6
  have hn9 := (ho11 _ (by omega)).trans hn9
  refine V_iconst (v := nI 0) d_Df_init_49 (by decide +kernel) ?_
  refine V_istore_n d_Df_init_50 (Nat.le_of_ble_eq_true rfl) ?_
  show pV Γ _ _ [some (.ref n), some (.int (nI 0))] _ _ _ _ _ _
  refine V_iload_n d_Df_init_51 rfl ?_
  refine V_iconst (v := nI 4) d_Df_init_52 (by decide +kernel) ?_
  refine V_icmp_geN (tgt := 75) d_Df_init_53 (by decide) (by omega) (by omega) (fun h => absurd h (by omega)) (fun _ => ?_)
  refine V_aload_n d_Df_init_56 rfl ?_
  refine V_getf d_Df_init_57 f_Df_30 h1 rfl ?_
  refine V_iload_n d_Df_init_60 rfl ?_
  refine V_new d_Df_init_61 n_Df_28 (by rfl) (by rfl) (fun G12 hn12 ho12 => ?_)
  have hn12 : G12 (n + 5) = some (.inr (kMt, [.int 0, .int 0, .null])) := hn12
  show pV Γ _ _ _ (.ref (n + 5) :: _) (n + 6) _ _ _ _
  have h1 := (ho12 _ (by omega)).trans h1
  have hn1 := (ho12 _ (by omega)).trans hn1
  have hn3 := (ho12 _ (by omega)).trans hn3
  have hn6 := (ho12 _ (by omega)).trans hn6
  have hn9 := (ho12 _ (by omega)).trans hn9
  refine V_dup d_Df_init_64 rfl ?_
  refine V_callI (As := []) (rest := [.ref (n + 5), .int (nI 0), .ref (n + 4)]) (lo' := [some (.ref (n + 5))]) (bc1 := 2) (bs1 := 20) (bc' := 9) (bs' := 69) d_Df_init_65 k_Df_init_37 rfl rfl rfl rfl (by rfl) (by rfl) ?_
  refine c_Mt_init hn12 (fun G13 hm0 ho13 => ?_)
  have h1 := (ho13 _ (by omega)).trans h1
  have hn1 := (ho13 _ (by omega)).trans hn1
  have hn3 := (ho13 _ (by omega)).trans hn3
  have hn6 := (ho13 _ (by omega)).trans hn6
  have hn9 := (ho13 _ (by omega)).trans hn9
  show pV Γ m_Df_init 68 [some (.ref n), some (.int (nI 0))] [.ref (n + 5), .int (nI 0), .ref (n + 4)] (n + 8) G13 9 69 Q
  refine V_aastore (ci := 8) (j := 0) d_Df_init_68 rfl rfl hn9 hm0.1 rfl (by omega) (by omega) (fun G14 hn9z ho14 => ?_)
  have hn9 := hn9z
  have h1 := (ho14 _ (by omega)).trans h1
  have hn1 := (ho14 _ (by omega)).trans hn1
  have hn3 := (ho14 _ (by omega)).trans hn3
  have hn6 := (ho14 _ (by omega)).trans hn6
  have hm0 := hm0.kept (fun q g1 g2 => ho14 q (by omega))
  refine V_iincN d_Df_init_69 rfl ?_
  show pV Γ _ _ [some (.ref n), some (.int (nI 1))] _ _ _ _ _ _
  refine V_goto (tgt := 51) d_Df_init_72 (by decide) ?_
  refine V_iload_n d_Df_init_51 rfl ?_
  refine V_iconst (v := nI 4) d_Df_init_52 (by decide +kernel) ?_
  refine V_icmp_geN (tgt := 75) d_Df_init_53 (by decide) (by omega) (by omega) (fun h => absurd h (by omega)) (fun _ => ?_)
  refine V_aload_n d_Df_init_56 rfl ?_
  refine V_getf d_Df_init_57 f_Df_30 h1 rfl ?_
  refine V_iload_n d_Df_init_60 rfl ?_
  refine V_new d_Df_init_61 n_Df_28 (by rfl) (by rfl) (fun G15 hn15 ho15 => ?_)
  have hn15 : G15 (n + 8) = some (.inr (kMt, [.int 0, .int 0, .null])) := hn15
  show pV Γ _ _ _ (.ref (n + 8) :: _) (n + 9) _ _ _ _
  have h1 := (ho15 _ (by omega)).trans h1
  have hn1 := (ho15 _ (by omega)).trans hn1
  have hn3 := (ho15 _ (by omega)).trans hn3
  have hn6 := (ho15 _ (by omega)).trans hn6
  have hn9 := (ho15 _ (by omega)).trans hn9
  have hm0 := hm0.kept (fun q g1 g2 => ho15 q (by omega))
  refine V_dup d_Df_init_64 rfl ?_
  refine V_callI (As := []) (rest := [.ref (n + 8), .int (nI 1), .ref (n + 4)]) (lo' := [some (.ref (n + 8))]) (bc1 := 2) (bs1 := 20) (bc' := 6) (bs' := 46) d_Df_init_65 k_Df_init_37 rfl rfl rfl rfl (by rfl) (by rfl) ?_
  refine c_Mt_init hn15 (fun G16 hm1 ho16 => ?_)
  have h1 := (ho16 _ (by omega)).trans h1
  have hn1 := (ho16 _ (by omega)).trans hn1
  have hn3 := (ho16 _ (by omega)).trans hn3
  have hn6 := (ho16 _ (by omega)).trans hn6
  have hn9 := (ho16 _ (by omega)).trans hn9
  have hm0 := hm0.kept (fun q g1 g2 => ho16 q (by omega))
  show pV Γ m_Df_init 68 [some (.ref n), some (.int (nI 1))] [.ref (n + 8), .int (nI 1), .ref (n + 4)] (n + 11) G16 6 46 Q
  refine V_aastore (ci := 8) (j := 1) d_Df_init_68 rfl rfl hn9 hm1.1 rfl (by omega) (by omega) (fun G17 hn9z ho17 => ?_)
  have hn9 := hn9z
  have h1 := (ho17 _ (by omega)).trans h1
  have hn1 := (ho17 _ (by omega)).trans hn1
  have hn3 := (ho17 _ (by omega)).trans hn3
  have hn6 := (ho17 _ (by omega)).trans hn6
  have hm0 := hm0.kept (fun q g1 g2 => ho17 q (by omega))
  have hm1 := hm1.kept (fun q g1 g2 => ho17 q (by omega))
  refine V_iincN d_Df_init_69 rfl ?_
  show pV Γ _ _ [some (.ref n), some (.int (nI 2))] _ _ _ _ _ _
  refine V_goto (tgt := 51) d_Df_init_72 (by decide) ?_
  refine V_iload_n d_Df_init_51 rfl ?_
  refine V_iconst (v := nI 4) d_Df_init_52 (by decide +kernel) ?_
  refine V_icmp_geN (tgt := 75) d_Df_init_53 (by decide) (by omega) (by omega) (fun h => absurd h (by omega)) (fun _ => ?_)
  refine V_aload_n d_Df_init_56 rfl ?_
  refine V_getf d_Df_init_57 f_Df_30 h1 rfl ?_
  refine V_iload_n d_Df_init_60 rfl ?_
  refine V_new d_Df_init_61 n_Df_28 (by rfl) (by rfl) (fun G18 hn18 ho18 => ?_)
  have hn18 : G18 (n + 11) = some (.inr (kMt, [.int 0, .int 0, .null])) := hn18
  show pV Γ _ _ _ (.ref (n + 11) :: _) (n + 12) _ _ _ _
  have h1 := (ho18 _ (by omega)).trans h1
  have hn1 := (ho18 _ (by omega)).trans hn1
  have hn3 := (ho18 _ (by omega)).trans hn3
  have hn6 := (ho18 _ (by omega)).trans hn6
  have hn9 := (ho18 _ (by omega)).trans hn9
  have hm0 := hm0.kept (fun q g1 g2 => ho18 q (by omega))
  have hm1 := hm1.kept (fun q g1 g2 => ho18 q (by omega))
  refine V_dup d_Df_init_64 rfl ?_
  refine V_callI (As := []) (rest := [.ref (n + 11), .int (nI 2), .ref (n + 4)]) (lo' := [some (.ref (n + 11))]) (bc1 := 2) (bs1 := 20) (bc' := 3) (bs' := 23) d_Df_init_65 k_Df_init_37 rfl rfl rfl rfl (by rfl) (by rfl) ?_
  refine c_Mt_init hn18 (fun G19 hm2 ho19 => ?_)
  have h1 := (ho19 _ (by omega)).trans h1
  have hn1 := (ho19 _ (by omega)).trans hn1
  have hn3 := (ho19 _ (by omega)).trans hn3
  have hn6 := (ho19 _ (by omega)).trans hn6
  have hn9 := (ho19 _ (by omega)).trans hn9
  have hm0 := hm0.kept (fun q g1 g2 => ho19 q (by omega))
  have hm1 := hm1.kept (fun q g1 g2 => ho19 q (by omega))
  show pV Γ m_Df_init 68 [some (.ref n), some (.int (nI 2))] [.ref (n + 11), .int (nI 2), .ref (n + 4)] (n + 14) G19 3 23 Q
  refine V_aastore (ci := 8) (j := 2) d_Df_init_68 rfl rfl hn9 hm2.1 rfl (by omega) (by omega) (fun G20 hn9z ho20 => ?_)
  have hn9 := hn9z
  have h1 := (ho20 _ (by omega)).trans h1
  have hn1 := (ho20 _ (by omega)).trans hn1
  have hn3 := (ho20 _ (by omega)).trans hn3
  have hn6 := (ho20 _ (by omega)).trans hn6
  have hm0 := hm0.kept (fun q g1 g2 => ho20 q (by omega))
  have hm1 := hm1.kept (fun q g1 g2 => ho20 q (by omega))
  have hm2 := hm2.kept (fun q g1 g2 => ho20 q (by omega))
  refine V_iincN d_Df_init_69 rfl ?_
  show pV Γ _ _ [some (.ref n), some (.int (nI 3))] _ _ _ _ _ _
  refine V_goto (tgt := 51) d_Df_init_72 (by decide) ?_
  refine V_iload_n d_Df_init_51 rfl ?_
  refine V_iconst (v := nI 4) d_Df_init_52 (by decide +kernel) ?_
  refine V_icmp_geN (tgt := 75) d_Df_init_53 (by decide) (by omega) (by omega) (fun h => absurd h (by omega)) (fun _ => ?_)
  refine V_aload_n d_Df_init_56 rfl ?_
  refine V_getf d_Df_init_57 f_Df_30 h1 rfl ?_
  refine V_iload_n d_Df_init_60 rfl ?_
  refine V_new d_Df_init_61 n_Df_28 (by rfl) (by rfl) (fun G21 hn21 ho21 => ?_)
  have hn21 : G21 (n + 14) = some (.inr (kMt, [.int 0, .int 0, .null])) := hn21
  show pV Γ _ _ _ (.ref (n + 14) :: _) (n + 15) _ _ _ _
  have h1 := (ho21 _ (by omega)).trans h1
  have hn1 := (ho21 _ (by omega)).trans hn1
  have hn3 := (ho21 _ (by omega)).trans hn3
  have hn6 := (ho21 _ (by omega)).trans hn6
  have hn9 := (ho21 _ (by omega)).trans hn9
  have hm0 := hm0.kept (fun q g1 g2 => ho21 q (by omega))
  have hm1 := hm1.kept (fun q g1 g2 => ho21 q (by omega))
  have hm2 := hm2.kept (fun q g1 g2 => ho21 q (by omega))
  refine V_dup d_Df_init_64 rfl ?_
  refine V_callI (As := []) (rest := [.ref (n + 14), .int (nI 3), .ref (n + 4)]) (lo' := [some (.ref (n + 14))]) (bc1 := 2) (bs1 := 20) (bc' := 0) (bs' := 0) d_Df_init_65 k_Df_init_37 rfl rfl rfl rfl (by rfl) (by rfl) ?_
  refine c_Mt_init hn21 (fun G22 hm3 ho22 => ?_)
  have h1 := (ho22 _ (by omega)).trans h1
  have hn1 := (ho22 _ (by omega)).trans hn1
  have hn3 := (ho22 _ (by omega)).trans hn3
  have hn6 := (ho22 _ (by omega)).trans hn6
  have hn9 := (ho22 _ (by omega)).trans hn9
  have hm0 := hm0.kept (fun q g1 g2 => ho22 q (by omega))
  have hm1 := hm1.kept (fun q g1 g2 => ho22 q (by omega))
  have hm2 := hm2.kept (fun q g1 g2 => ho22 q (by omega))
  show pV Γ m_Df_init 68 [some (.ref n), some (.int (nI 3))] [.ref (n + 14), .int (nI 3), .ref (n + 4)] (n + 17) G22 0 0 Q
  refine V_aastore (ci := 8) (j := 3) d_Df_init_68 rfl rfl hn9 hm3.1 rfl (by omega) (by omega) (fun G23 hn9z ho23 => ?_)
  have hn9 := hn9z
  have h1 := (ho23 _ (by omega)).trans h1
  have hn1 := (ho23 _ (by omega)).trans hn1
  have hn3 := (ho23 _ (by omega)).trans hn3
  have hn6 := (ho23 _ (by omega)).trans hn6
  have hm0 := hm0.kept (fun q g1 g2 => ho23 q (by omega))
  have hm1 := hm1.kept (fun q g1 g2 => ho23 q (by omega))
  have hm2 := hm2.kept (fun q g1 g2 => ho23 q (by omega))
  have hm3 := hm3.kept (fun q g1 g2 => ho23 q (by omega))
  refine V_iincN d_Df_init_69 rfl ?_
  show pV Γ _ _ [some (.ref n), some (.int (nI 4))] _ _ _ _ _ _
  refine V_goto (tgt := 51) d_Df_init_72 (by decide) ?_
  refine V_iload_n d_Df_init_51 rfl ?_
  refine V_iconst (v := nI 4) d_Df_init_52 (by decide +kernel) ?_
  refine V_icmp_geN (tgt := 75) d_Df_init_53 (by decide) (by omega) (by omega) (fun _ => ?_) (fun h => absurd h (by omega))
  refine V_aload_n d_Df_init_75 rfl ?_
  have hD : isDef G23 n ((fun _ => 0), (0, fun _ => 0), (0, fun _ => 0), 0, fun _ => 0, fun _ => 0, fun _ => 0, fun _ _ => 0) := by
    refine ⟨⟨by decide, by decide, by decide, fun j hj => absurd hj (Nat.not_lt_zero j)⟩, h1, ⟨_, hn1, fun _ _ => rfl⟩, ⟨_, hn3, fun k hk => absurd hk (Nat.not_lt_zero k)⟩, ⟨_, hn6, fun k hk => absurd hk (Nat.not_lt_zero k)⟩, ⟨_, hn9, fun j hj => ?_⟩, fun j hj => ?_, fun j hj => absurd hj (Nat.not_lt_zero j)⟩
    · match j, hj with
      | 0, _ => rfl
      | 1, _ => rfl
      | 2, _ => rfl
      | 3, _ => rfl
      | k + 4, h => exact absurd h (by omega)
    · match j, hj with
      | 0, _ => exact ⟨_, _, _, _, hm0⟩
      | 1, _ => exact ⟨_, _, _, _, hm1⟩
      | 2, _ => exact ⟨_, _, _, _, hm2⟩
      | 3, _ => exact ⟨_, _, _, _, hm3⟩
      | k + 4, h => exact absurd h (by omega)
  have hE : ∀ q, (q < n ∨ n + 17 ≤ q) → G23 q = G q := fun q hq => by rw [ho23 q (by omega), ho22 q (by omega), ho21 q (by omega), ho20 q (by omega), ho19 q (by omega), ho18 q (by omega), ho17 q (by omega), ho16 q (by omega), ho15 q (by omega), ho14 q (by omega), ho13 q (by omega), ho12 q (by omega), ho11 q (by omega), ho10 q (by omega), ho9 q (by omega), ho8 q (by omega), ho7 q (by omega), ho6 q (by omega), ho5 q (by omega), ho4 q (by omega), ho3 q (by omega), ho2 q (by omega), ho1 q (by omega)]
  refine V_callV (As := []) (rest := []) (lo' := [some (.ref n)]) (bc1 := 0) (bs1 := 0) (bc' := 0) (bs' := 0) d_Df_init_76 k_Df_init_38 hD.2.1 rfl rfl rfl rfl (by rfl) (by rfl) ?_
  refine c_Df_clear hD (fun G99 hD' ho99 => ?_)
  show pV Γ m_Df_init 79 [some (.ref n), some (.int (nI 4))] [] _ G99 0 0 Q
  exact V_return d_Df_init_79 rfl (hQ G99 hD' (fun q hq => by rw [ho99 q hq, hE q hq]))
set_option maxHeartbeats 1000000 in
theorem c_Df_become {Γ : pmE} {G : pmG} {n : Nat} {Q : pmPost} {a b : Nat} {D E : Dfn} (h : isDef G a D) (j : isDef G b E) (hab : a + 17 ≤ b ∨ b + 17 ≤ a) (hQ : ∀ G', isDef G' a E → (∀ q, (q < a ∨ a + 17 ≤ q) → G' q = G q) → Q none n G') : pV Γ m_Df_become 0 [some (.ref a), some (.ref b), none] [] n G 0 0 Q := by
  have hj0 := j
  obtain ⟨⟨hni, hnf, hnm, hln⟩, h1, ⟨f1, h2, h2'⟩, ⟨f2, h3, h3'⟩, ⟨f3, h4, h4'⟩, ⟨f4, h5, h5'⟩, h6, h7⟩ := h
  obtain ⟨⟨jni, jnf, jnm, jln⟩, j1, ⟨g1, j2, j2'⟩, ⟨g2, j3, j3'⟩, ⟨g3, j4, j4'⟩, ⟨g4, j5, j5'⟩, j6, j7⟩ := j
  have loop : ∀ (d i : Nat), i ≤ dNm E → dNm E - i < d → ∀ G1 : pmG, isDfU G1 a E i → isDef G1 b E → (∀ q, (q < a ∨ a + 17 ≤ q) → G1 q = G q) → pV Γ m_Df_become 76 [some (.ref a), some (.ref b), some (.int (nI i))] [] n G1 0 0 Q := by
    intro d
    induction d with
    | zero => intro i _ hd; exact absurd hd (by omega)
    | succ d ih =>
      intro i hi hd G1 hU hJ ho
      have hU0 := hU
      have hJ0 := hJ
      obtain ⟨-, h1, ⟨f1, h2, h2'⟩, ⟨f2, h3, h3'⟩, ⟨f3, h4, h4'⟩, ⟨f4, h5, h5'⟩, h6, h7⟩ := hU
      obtain ⟨-, j1, ⟨g1, j2, j2'⟩, ⟨g2, j3, j3'⟩, ⟨g3, j4, j4'⟩, ⟨g4, j5, j5'⟩, j6, j7⟩ := hJ
      refine V_iload_n d_Df_become_76 rfl ?_
      refine V_aload_n d_Df_become_77 rfl ?_
      refine V_getf d_Df_become_78 f_Df_34 h1 rfl ?_
      refine V_icmp_geN (tgt := 105) d_Df_become_81 (by decide) (by omega) (by omega) (fun hb81 => ?_) (fun hb81 => ?_)
      · exact V_return d_Df_become_105 rfl (hQ G1 (by rw [show i = dNm E by omega] at hU0; exact hU0) ho)
      · refine V_aload_n d_Df_become_84 rfl ?_
        refine V_getf d_Df_become_85 f_Df_30 h1 rfl ?_
        refine V_iload_n d_Df_become_88 rfl ?_
        refine V_aaload (j := i) d_Df_become_89 rfl h5 rfl (by omega) (by omega) ?_
        rw [h5' i (by omega)]
        show pV Γ _ _ _ (.ref (a + 5 + 3 * i) :: _) _ _ _ _ _
        refine V_aload_n d_Df_become_90 rfl ?_
        refine V_getf d_Df_become_91 f_Df_30 j1 rfl ?_
        refine V_iload_n d_Df_become_94 rfl ?_
        refine V_aaload (j := i) d_Df_become_95 rfl j5 rfl (by omega) (by omega) ?_
        rw [j5' i (by omega)]
        show pV Γ _ _ _ (.ref (b + 5 + 3 * i) :: _) _ _ _ _ _
        obtain ⟨nm, fl, len, c, hm⟩ := h6 i (by omega)
        refine V_callV (As := [.ref (b + 5 + 3 * i)]) (rest := []) (lo' := [some (.ref (a + 5 + 3 * i)), some (.ref (b + 5 + 3 * i))]) (bc1 := 0) (bs1 := 0) (bc' := 0) (bs' := 0) d_Df_become_96 k_Df_become_47 hm.1 rfl rfl rfl rfl (by rfl) (by rfl) ?_
        refine c_Mt_become hm (j7 i (by omega)) (by omega) (fun G2 hm ho2 => ?_)
        show pV Γ m_Df_become 99 [some (.ref a), some (.ref b), some (.int (nI i))] [] _ G2 0 0 Q
        refine V_iincN d_Df_become_99 rfl ?_
        show pV Γ _ _ [some (.ref a), some (.ref b), some (.int (nI (i + 1)))] _ _ _ _ _ _
        refine V_goto (tgt := 76) d_Df_become_102 (by decide) ?_
        exact ih (i + 1) (by omega) (by omega) G2 (hU0.step (by omega) hm ho2) (hJ0.kept fun q g1 g2 => ho2 q (by omega)) (fun q hq => by rw [ho2 q (by omega), ho q hq])
  refine V_aload_n d_Df_become_0 rfl ?_
  refine V_getf d_Df_become_1 f_Df_9 j1 rfl ?_
  refine V_iconst (v := nI 0) d_Df_become_4 (by decide +kernel) ?_
  refine V_aload_n d_Df_become_5 rfl ?_
  refine V_getf d_Df_become_6 f_Df_9 h1 rfl ?_
  refine V_iconst (v := nI 0) d_Df_become_9 (by decide +kernel) ?_
  refine V_iconst (v := nI 5) d_Df_become_10 (by decide +kernel) ?_
  refine V_copyi (d := 0) (k := 5) d_Df_become_11 w_274 w_276 w_275 w_12 rfl (by decide +kernel) rfl j2 h2 rfl rfl rfl (by omega) (by omega) (by omega) (by omega) (fun G1 h2q ho1 => ?_)
  have h2 := h2q
  have h1 := (ho1 _ (by omega)).trans h1
  have h3 := (ho1 _ (by omega)).trans h3
  have h4 := (ho1 _ (by omega)).trans h4
  have h5 := (ho1 _ (by omega)).trans h5
  have j1 := (ho1 _ (by omega)).trans j1
  have j2 := (ho1 _ (by omega)).trans j2
  have j3 := (ho1 _ (by omega)).trans j3
  have j4 := (ho1 _ (by omega)).trans j4
  have j5 := (ho1 _ (by omega)).trans j5
  refine V_aload_n d_Df_become_14 rfl ?_
  refine V_aload_n d_Df_become_15 rfl ?_
  refine V_getf d_Df_become_16 f_Df_18 j1 rfl ?_
  refine V_putf d_Df_become_19 f_Df_18 p_Df_18 h1 rfl rfl rfl (fun G2 h1z ho2 => ?_)
  have h1 : G2 a = some (.inr (kDf, [.ref (a + 1), .ref (a + 2), .int (nI (dNi E)), .ref (a + 3), .int (nI (dNf D)), .ref (a + 4), .int (nI (dNm D))])) := h1z
  have h2 := (ho2 _ (by omega)).trans h2
  have h3 := (ho2 _ (by omega)).trans h3
  have h4 := (ho2 _ (by omega)).trans h4
  have h5 := (ho2 _ (by omega)).trans h5
  have j1 := (ho2 _ (by omega)).trans j1
  have j2 := (ho2 _ (by omega)).trans j2
  have j3 := (ho2 _ (by omega)).trans j3
  have j4 := (ho2 _ (by omega)).trans j4
  have j5 := (ho2 _ (by omega)).trans j5
  refine V_aload_n d_Df_become_22 rfl ?_
  refine V_getf d_Df_become_23 f_Df_15 j1 rfl ?_
  refine V_iconst (v := nI 0) d_Df_become_26 (by decide +kernel) ?_
  refine V_aload_n d_Df_become_27 rfl ?_
  refine V_getf d_Df_become_28 f_Df_15 h1 rfl ?_
  refine V_iconst (v := nI 0) d_Df_become_31 (by decide +kernel) ?_
  refine V_aload_n d_Df_become_32 rfl ?_
  refine V_getf d_Df_become_33 f_Df_18 h1 rfl ?_
  refine V_copyi (d := 0) (k := dNi E) d_Df_become_36 w_274 w_276 w_275 w_12 rfl (by decide +kernel) rfl j3 h3 rfl rfl rfl (by omega) (by omega) (by omega) (by omega) (fun G3 h3q ho3 => ?_)
  have h3 := h3q
  have h1 := (ho3 _ (by omega)).trans h1
  have h2 := (ho3 _ (by omega)).trans h2
  have h4 := (ho3 _ (by omega)).trans h4
  have h5 := (ho3 _ (by omega)).trans h5
  have j1 := (ho3 _ (by omega)).trans j1
  have j2 := (ho3 _ (by omega)).trans j2
  have j3 := (ho3 _ (by omega)).trans j3
  have j4 := (ho3 _ (by omega)).trans j4
  have j5 := (ho3 _ (by omega)).trans j5
  refine V_aload_n d_Df_become_39 rfl ?_
  refine V_aload_n d_Df_become_40 rfl ?_
  refine V_getf d_Df_become_41 f_Df_25 j1 rfl ?_
  refine V_putf d_Df_become_44 f_Df_25 p_Df_25 h1 rfl rfl rfl (fun G4 h1z ho4 => ?_)
  have h1 : G4 a = some (.inr (kDf, [.ref (a + 1), .ref (a + 2), .int (nI (dNi E)), .ref (a + 3), .int (nI (dNf E)), .ref (a + 4), .int (nI (dNm D))])) := h1z
  have h2 := (ho4 _ (by omega)).trans h2
  have h3 := (ho4 _ (by omega)).trans h3
  have h4 := (ho4 _ (by omega)).trans h4
  have h5 := (ho4 _ (by omega)).trans h5
  have j1 := (ho4 _ (by omega)).trans j1
  have j2 := (ho4 _ (by omega)).trans j2
  have j3 := (ho4 _ (by omega)).trans j3
  have j4 := (ho4 _ (by omega)).trans j4
  have j5 := (ho4 _ (by omega)).trans j5
  refine V_aload_n d_Df_become_47 rfl ?_
  refine V_getf d_Df_become_48 f_Df_22 j1 rfl ?_
  refine V_iconst (v := nI 0) d_Df_become_51 (by decide +kernel) ?_
  refine V_aload_n d_Df_become_52 rfl ?_
  refine V_getf d_Df_become_53 f_Df_22 h1 rfl ?_
  refine V_iconst (v := nI 0) d_Df_become_56 (by decide +kernel) ?_
  refine V_aload_n d_Df_become_57 rfl ?_
  refine V_getf d_Df_become_58 f_Df_25 h1 rfl ?_
  refine V_iconst (v := nI 3) d_Df_become_61 (by decide +kernel) ?_
  refine V_imulN d_Df_become_62 ?_
  refine V_copyi (d := 0) (k := dNf E * 3) d_Df_become_63 w_274 w_276 w_275 w_12 rfl (by decide +kernel) rfl j4 h4 rfl rfl rfl (by omega) (by omega) (by omega) (by omega) (fun G5 h4q ho5 => ?_)
  have h4 := h4q
  have h1 := (ho5 _ (by omega)).trans h1
  have h2 := (ho5 _ (by omega)).trans h2
  have h3 := (ho5 _ (by omega)).trans h3
  have h5 := (ho5 _ (by omega)).trans h5
  have j1 := (ho5 _ (by omega)).trans j1
  have j2 := (ho5 _ (by omega)).trans j2
  have j3 := (ho5 _ (by omega)).trans j3
  have j4 := (ho5 _ (by omega)).trans j4
  have j5 := (ho5 _ (by omega)).trans j5
  refine V_aload_n d_Df_become_66 rfl ?_
  refine V_aload_n d_Df_become_67 rfl ?_
  refine V_getf d_Df_become_68 f_Df_34 j1 rfl ?_
  refine V_putf d_Df_become_71 f_Df_34 p_Df_34 h1 rfl rfl rfl (fun G6 h1z ho6 => ?_)
  have h1 : G6 a = some (.inr (kDf, [.ref (a + 1), .ref (a + 2), .int (nI (dNi E)), .ref (a + 3), .int (nI (dNf E)), .ref (a + 4), .int (nI (dNm E))])) := h1z
  have h2 := (ho6 _ (by omega)).trans h2
  have h3 := (ho6 _ (by omega)).trans h3
  have h4 := (ho6 _ (by omega)).trans h4
  have h5 := (ho6 _ (by omega)).trans h5
  have j1 := (ho6 _ (by omega)).trans j1
  have j2 := (ho6 _ (by omega)).trans j2
  have j3 := (ho6 _ (by omega)).trans j3
  have j4 := (ho6 _ (by omega)).trans j4
  have j5 := (ho6 _ (by omega)).trans j5
  refine V_iconst (v := nI 0) d_Df_become_74 (by decide +kernel) ?_
  refine V_istore_n d_Df_become_75 (Nat.le_of_ble_eq_true rfl) ?_
  show pV Γ _ _ [some (.ref a), some (.ref b), some (.int (nI 0))] _ _ _ _ _ _
  have hE : ∀ q, q ≠ a → q ≠ a + 1 → q ≠ a + 2 → q ≠ a + 3 → G6 q = G q := fun q g1 g2 g3 g4 => by rw [ho6 q (by assumption), ho5 q (by assumption), ho4 q (by assumption), ho3 q (by assumption), ho2 q (by assumption), ho1 q (by assumption)]
  have hU : isDfU G6 a E 0 := by
    refine ⟨⟨jni, jnf, jnm, jln⟩, h1, ⟨_, h2, fun k hk => ?_⟩, ⟨_, h3, fun k hk => ?_⟩, ⟨_, h4, fun k hk => ?_⟩, ⟨f4, h5, h5'⟩, fun j hj => (h6 j hj).kept fun q g1 g2 => hE q (by omega) (by omega) (by omega) (by omega), fun j hj => absurd hj (Nat.not_lt_zero j)⟩
    · rw [pk_cpy_in (by omega) (by omega), Nat.zero_add, Nat.sub_zero]; exact j2' k hk
    · rw [pk_cpy_in (by omega) (by omega), Nat.zero_add, Nat.sub_zero]; exact j3' k hk
    · rw [pk_cpy_in (by omega) (by omega), Nat.zero_add, Nat.sub_zero]; exact j4' k (by omega)
  have hJ : isDef G6 b E := hj0.kept fun q g1 g2 => hE q (by omega) (by omega) (by omega) (by omega)
  exact loop (dNm E + 1) 0 (by omega) (by omega) G6 hU hJ (fun q hq => hE q (by omega) (by omega) (by omega) (by omega))
end
section
/-! LoadedClass, Trial, Transformer. -/
set_option maxHeartbeats 1000000 in
theorem c_Lc_init {Γ : pmE} {G : pmG} {n : Nat} {Q : pmPost} (h1 : G n = some (.inr (kLc, [.int 0, .null, .null]))) (hQ : ∀ G', isLd G' n 0 dBlk dBlk → (∀ q, (q < n ∨ n + 35 ≤ q) → G' q = G q) → Q none (n + 35) G') : pV Γ m_Lc_init 0 [some (.ref n)] [] (n + 1) G 34 246 Q := by
  refine V_aload_n d_Lc_init_0 rfl ?_
  refine V_objInit d_Lc_init_1 w_426 w_21 w_22 (by decide +kernel) rfl ?_
  refine V_aload_n d_Lc_init_4 rfl ?_
  refine V_iconst (v := nI 0) d_Lc_init_5 (by decide +kernel) ?_
  refine V_putf d_Lc_init_6 f_Lc_7 p_Lc_7 h1 rfl rfl rfl (fun G1 h1z ho1 => ?_)
  have h1 : G1 n = some (.inr (kLc, [.int (nI 0), .null, .null])) := h1z
  refine V_aload_n d_Lc_init_9 rfl ?_
  refine V_new d_Lc_init_10 n_Lc_13 (by rfl) (by rfl) (fun G2 hn2 ho2 => ?_)
  have hn2 : G2 (n + 1) = some (.inr (kDf, [.null, .null, .int 0, .null, .int 0, .null, .int 0])) := hn2
  show pV Γ _ _ _ (.ref (n + 1) :: _) (n + 2) _ _ _ _
  have h1 := (ho2 _ (by omega)).trans h1
  refine V_dup d_Lc_init_13 rfl ?_
  refine V_callI (As := []) (rest := [.ref (n + 1), .ref n]) (lo' := [some (.ref (n + 1)), none]) (bc1 := 16) (bs1 := 116) (bc' := 17) (bs' := 123) d_Lc_init_14 k_Lc_init_15 rfl rfl rfl rfl (by rfl) (by rfl) ?_
  refine c_Df_init hn2 (fun G3 hd0 ho3 => ?_)
  have h1 := (ho3 _ (by omega)).trans h1
  show pV Γ m_Lc_init 17 [some (.ref n)] [.ref (n + 1), .ref n] (n + 18) G3 17 123 Q
  refine V_putF d_Lc_init_17 p_Lc_16 rfl h1 rfl rfl rfl (fun G4 h1z ho4 => ?_)
  have h1 : G4 n = some (.inr (kLc, [.int (nI 0), .ref (n + 1), .null])) := h1z
  have hd0 := hd0.kept (fun q g1 g2 => ho4 q (by omega))
  refine V_aload_n d_Lc_init_20 rfl ?_
  refine V_new d_Lc_init_21 n_Lc_13 (by rfl) (by rfl) (fun G5 hn5 ho5 => ?_)
  have hn5 : G5 (n + 18) = some (.inr (kDf, [.null, .null, .int 0, .null, .int 0, .null, .int 0])) := hn5
  show pV Γ _ _ _ (.ref (n + 18) :: _) (n + 19) _ _ _ _
  have h1 := (ho5 _ (by omega)).trans h1
  have hd0 := hd0.kept (fun q g1 g2 => ho5 q (by omega))
  refine V_dup d_Lc_init_24 rfl ?_
  refine V_callI (As := []) (rest := [.ref (n + 18), .ref n]) (lo' := [some (.ref (n + 18)), none]) (bc1 := 16) (bs1 := 116) (bc' := 0) (bs' := 0) d_Lc_init_25 k_Lc_init_15 rfl rfl rfl rfl (by rfl) (by rfl) ?_
  refine c_Df_init hn5 (fun G6 hd1 ho6 => ?_)
  have h1 := (ho6 _ (by omega)).trans h1
  have hd0 := hd0.kept (fun q g1 g2 => ho6 q (by omega))
  show pV Γ m_Lc_init 28 [some (.ref n)] [.ref (n + 18), .ref n] (n + 35) G6 0 0 Q
  refine V_putF d_Lc_init_28 p_Lc_20 rfl h1 rfl rfl rfl (fun G7 h1z ho7 => ?_)
  have h1 : G7 n = some (.inr (kLc, [.int (nI 0), .ref (n + 1), .ref (n + 18)])) := h1z
  have hd0 := hd0.kept (fun q g1 g2 => ho7 q (by omega))
  have hd1 := hd1.kept (fun q g1 g2 => ho7 q (by omega))
  exact V_return d_Lc_init_31 rfl (hQ G7 ⟨h1, hd0, hd1⟩ (fun q hq => by rw [ho7 q (by omega), ho6 q (by omega), ho5 q (by omega), ho4 q (by omega), ho3 q (by omega), ho2 q (by omega), ho1 q (by omega)]))
set_option maxHeartbeats 1000000 in
theorem c_Tr_init {Γ : pmE} {G : pmG} {n : Nat} {Q : pmPost} (h1 : G n = some (.inr (kTr, [.int 0, .null, .null]))) (hQ : ∀ G', isTr G' n (-1) dBlk dBlk → (∀ q, (q < n ∨ n + 35 ≤ q) → G' q = G q) → Q none (n + 35) G') : pV Γ m_Tr_init 0 [some (.ref n)] [] (n + 1) G 34 246 Q := by
  refine V_aload_n d_Tr_init_0 rfl ?_
  refine V_objInit d_Tr_init_1 w_161 w_21 w_22 (by decide +kernel) rfl ?_
  refine V_aload_n d_Tr_init_4 rfl ?_
  refine V_iconst (v := (-1)) d_Tr_init_5 (by decide +kernel) ?_
  refine V_putf d_Tr_init_6 f_Tr_9 p_Tr_9 h1 rfl rfl rfl (fun G1 h1z ho1 => ?_)
  have h1 : G1 n = some (.inr (kTr, [.int ((-1)), .null, .null])) := h1z
  refine V_aload_n d_Tr_init_9 rfl ?_
  refine V_new d_Tr_init_10 n_Tr_15 (by rfl) (by rfl) (fun G2 hn2 ho2 => ?_)
  have hn2 : G2 (n + 1) = some (.inr (kDf, [.null, .null, .int 0, .null, .int 0, .null, .int 0])) := hn2
  show pV Γ _ _ _ (.ref (n + 1) :: _) (n + 2) _ _ _ _
  have h1 := (ho2 _ (by omega)).trans h1
  refine V_dup d_Tr_init_13 rfl ?_
  refine V_callI (As := []) (rest := [.ref (n + 1), .ref n]) (lo' := [some (.ref (n + 1)), none]) (bc1 := 16) (bs1 := 116) (bc' := 17) (bs' := 123) d_Tr_init_14 k_Tr_init_17 rfl rfl rfl rfl (by rfl) (by rfl) ?_
  refine c_Df_init hn2 (fun G3 hd0 ho3 => ?_)
  have h1 := (ho3 _ (by omega)).trans h1
  show pV Γ m_Tr_init 17 [some (.ref n)] [.ref (n + 1), .ref n] (n + 18) G3 17 123 Q
  refine V_putF d_Tr_init_17 p_Tr_18 rfl h1 rfl rfl rfl (fun G4 h1z ho4 => ?_)
  have h1 : G4 n = some (.inr (kTr, [.int ((-1)), .ref (n + 1), .null])) := h1z
  have hd0 := hd0.kept (fun q g1 g2 => ho4 q (by omega))
  refine V_aload_n d_Tr_init_20 rfl ?_
  refine V_new d_Tr_init_21 n_Tr_15 (by rfl) (by rfl) (fun G5 hn5 ho5 => ?_)
  have hn5 : G5 (n + 18) = some (.inr (kDf, [.null, .null, .int 0, .null, .int 0, .null, .int 0])) := hn5
  show pV Γ _ _ _ (.ref (n + 18) :: _) (n + 19) _ _ _ _
  have h1 := (ho5 _ (by omega)).trans h1
  have hd0 := hd0.kept (fun q g1 g2 => ho5 q (by omega))
  refine V_dup d_Tr_init_24 rfl ?_
  refine V_callI (As := []) (rest := [.ref (n + 18), .ref n]) (lo' := [some (.ref (n + 18)), none]) (bc1 := 16) (bs1 := 116) (bc' := 0) (bs' := 0) d_Tr_init_25 k_Tr_init_17 rfl rfl rfl rfl (by rfl) (by rfl) ?_
  refine c_Df_init hn5 (fun G6 hd1 ho6 => ?_)
  have h1 := (ho6 _ (by omega)).trans h1
  have hd0 := hd0.kept (fun q g1 g2 => ho6 q (by omega))
  show pV Γ m_Tr_init 28 [some (.ref n)] [.ref (n + 18), .ref n] (n + 35) G6 0 0 Q
  refine V_putF d_Tr_init_28 p_Tr_22 rfl h1 rfl rfl rfl (fun G7 h1z ho7 => ?_)
  have h1 : G7 n = some (.inr (kTr, [.int ((-1)), .ref (n + 1), .ref (n + 18)])) := h1z
  have hd0 := hd0.kept (fun q g1 g2 => ho7 q (by omega))
  have hd1 := hd1.kept (fun q g1 g2 => ho7 q (by omega))
  exact V_return d_Tr_init_31 rfl (hQ G7 ⟨h1, hd0, hd1⟩ (fun q hq => by rw [ho7 q (by omega), ho6 q (by omega), ho5 q (by omega), ho4 q (by omega), ho3 q (by omega), ho2 q (by omega), ho1 q (by omega)]))
set_option maxHeartbeats 1000000 in
theorem c_Lc_addEdition {Γ : pmE} {G : pmG} {n : Nat} {Q : pmPost} {a b e : Nat} {D O F : Dfn} (h : isLd G b e D O) (hf : isDef G a F) (hab : b + 35 ≤ a ∨ a + 17 ≤ b) (hQ : ∀ G', isLd G' b (e + 1) F O → (∀ q, (q < b ∨ b + 18 ≤ q) → G' q = G q) → Q none n G') : pV Γ m_Lc_addEdition 0 [some (.ref b), some (.ref a)] [] n G 0 0 Q := by
  obtain ⟨h1, hd, ho⟩ := h
  refine V_aload_n d_Lc_addEdition_0 rfl ?_
  refine V_getf d_Lc_addEdition_1 f_Lc_16 h1 rfl ?_
  refine V_aload_n d_Lc_addEdition_4 rfl ?_
  refine V_callV (As := [.ref a]) (rest := []) (lo' := [some (.ref (b + 1)), some (.ref a), none]) (bc1 := 0) (bs1 := 0) (bc' := 0) (bs' := 0) d_Lc_addEdition_5 k_Lc_addEdition_23 hd.2.1 rfl rfl rfl rfl (by rfl) (by rfl) ?_
  refine c_Df_become hd hf (by omega) (fun G1 hd ho1 => ?_)
  have h1 := (ho1 _ (by omega)).trans h1
  have ho := ho.kept (fun q g1 g2 => ho1 q (by omega))
  have hf := hf.kept (fun q g1 g2 => ho1 q (by omega))
  show pV Γ m_Lc_addEdition 8 [some (.ref b), some (.ref a)] [] _ G1 0 0 Q
  refine V_aload_n d_Lc_addEdition_8 rfl ?_
  refine V_dup d_Lc_addEdition_9 rfl ?_
  refine V_getf d_Lc_addEdition_10 f_Lc_7 h1 rfl ?_
  refine V_iconst (v := nI 1) d_Lc_addEdition_13 (by decide +kernel) ?_
  refine V_iaddN d_Lc_addEdition_14 ?_
  refine V_putf d_Lc_addEdition_15 f_Lc_7 p_Lc_7 h1 rfl rfl rfl (fun G2 h1z ho2 => ?_)
  have h1 : G2 b = some (.inr (kLc, [.int (nI (e + 1)), .ref (b + 1), .ref (b + 18)])) := h1z
  have ho := ho.kept (fun q g1 g2 => ho2 q (by omega))
  have hd := hd.kept (fun q g1 g2 => ho2 q (by omega))
  exact V_return d_Lc_addEdition_18 rfl (hQ G2 ⟨h1, hd, ho⟩ (fun q hq => by rw [ho2 q (by omega), ho1 q (by omega)]))
set_option maxHeartbeats 1000000 in
theorem c_Tr_take {Γ : pmE} {G : pmG} {n : Nat} {Q : pmPost} {a b : Nat} {t x : Int32} {D O F : Dfn} (h : isTr G b t D O) (hf : isDef G a F) (hab : b + 18 ≤ a ∨ a + 17 ≤ b) (hQ : ∀ G', isTr G' b x F O → (∀ q, (q < b ∨ b + 18 ≤ q) → G' q = G q) → Q none n G') : pV Γ m_Tr_take 0 [some (.ref b), some (.ref a), some (.int x)] [] n G 0 0 Q := by
  obtain ⟨h1, hd, ho⟩ := h
  refine V_aload_n d_Tr_take_0 rfl ?_
  refine V_getf d_Tr_take_1 f_Tr_18 h1 rfl ?_
  refine V_aload_n d_Tr_take_4 rfl ?_
  refine V_callV (As := [.ref a]) (rest := []) (lo' := [some (.ref (b + 1)), some (.ref a), none]) (bc1 := 0) (bs1 := 0) (bc' := 0) (bs' := 0) d_Tr_take_5 k_Tr_take_25 hd.2.1 rfl rfl rfl rfl (by rfl) (by rfl) ?_
  refine c_Df_become hd hf (by omega) (fun G1 hd ho1 => ?_)
  have h1 := (ho1 _ (by omega)).trans h1
  have ho := ho.kept (fun q g1 g2 => ho1 q (by omega))
  have hf := hf.kept (fun q g1 g2 => ho1 q (by omega))
  show pV Γ m_Tr_take 8 [some (.ref b), some (.ref a), some (.int x)] [] _ G1 0 0 Q
  refine V_aload_n d_Tr_take_8 rfl ?_
  refine V_iload_n d_Tr_take_9 rfl ?_
  refine V_putf d_Tr_take_10 f_Tr_9 p_Tr_9 h1 rfl rfl rfl (fun G2 h1z ho2 => ?_)
  have h1 : G2 b = some (.inr (kTr, [.int x, .ref (b + 1), .ref (b + 18)])) := h1z
  have ho := ho.kept (fun q g1 g2 => ho2 q (by omega))
  have hd := hd.kept (fun q g1 g2 => ho2 q (by omega))
  exact V_return d_Tr_take_13 rfl (hQ G2 ⟨h1, hd, ho⟩ (fun q hq => by rw [ho2 q (by omega), ho1 q (by omega)]))
theorem c_Tf_init {Γ : pmE} {G : pmG} {n : Nat} {Q : pmPost} (h1 : G n = some (.inr (kTf, [.int 0, .int 0, .int 0, .int 0, .int 0]))) (hQ : ∀ G', isTf G' n (false, 0, nI 0, -1, false) → (∀ q, q ≠ n → G' q = G q) → Q none (n + 1) G') : pV Γ m_Tf_init 0 [some (.ref n)] [] (n + 1) G 0 0 Q := by
  refine V_aload_n d_Tf_init_0 rfl ?_
  refine V_objInit d_Tf_init_1 w_129 w_21 w_22 (by decide +kernel) rfl ?_
  refine V_aload_n d_Tf_init_4 rfl ?_
  refine V_iconst (v := nI 0) d_Tf_init_5 (by decide +kernel) ?_
  refine V_putf d_Tf_init_6 f_Tf_9 p_Tf_9 h1 rfl (by first | rfl | exact pB_nar _) (by first | rfl | exact pB_fit _) (fun G1 h1z ho1 => ?_)
  have h1 : G1 n = some (.inr (kTf, [.int (nI 0), .int 0, .int 0, .int 0, .int 0])) := h1z
  refine V_aload_n d_Tf_init_9 rfl ?_
  refine V_iconst (v := nI 0) d_Tf_init_10 (by decide +kernel) ?_
  refine V_putf d_Tf_init_11 f_Tf_15 p_Tf_15 h1 rfl rfl rfl (fun G2 h1z ho2 => ?_)
  have h1 : G2 n = some (.inr (kTf, [.int (nI 0), .int (nI 0), .int 0, .int 0, .int 0])) := h1z
  refine V_aload_n d_Tf_init_14 rfl ?_
  refine V_iconst (v := nI 0) d_Tf_init_15 (by decide +kernel) ?_
  refine V_putf d_Tf_init_16 f_Tf_19 p_Tf_19 h1 rfl rfl rfl (fun G3 h1z ho3 => ?_)
  have h1 : G3 n = some (.inr (kTf, [.int (nI 0), .int (nI 0), .int (nI 0), .int 0, .int 0])) := h1z
  refine V_aload_n d_Tf_init_19 rfl ?_
  refine V_iconst (v := (-1)) d_Tf_init_20 (by decide +kernel) ?_
  refine V_putf d_Tf_init_21 f_Tf_22 p_Tf_22 h1 rfl rfl rfl (fun G4 h1z ho4 => ?_)
  have h1 : G4 n = some (.inr (kTf, [.int (nI 0), .int (nI 0), .int (nI 0), .int ((-1)), .int 0])) := h1z
  refine V_aload_n d_Tf_init_24 rfl ?_
  refine V_iconst (v := nI 0) d_Tf_init_25 (by decide +kernel) ?_
  refine V_putf d_Tf_init_26 f_Tf_25 p_Tf_25 h1 rfl (by first | rfl | exact pB_nar _) (by first | rfl | exact pB_fit _) (fun G5 h1z ho5 => ?_)
  have h1 : G5 n = some (.inr (kTf, [.int (nI 0), .int (nI 0), .int (nI 0), .int ((-1)), .int (nI 0)])) := h1z
  refine V_return d_Tf_init_29 rfl (hQ G5 ?_ (fun q hq => by rw [ho5 q hq, ho4 q hq, ho3 q hq, ho2 q hq, ho1 q hq]))
  unfold isTf
  rw [pB_f (by decide : ¬ (false = true))]
  exact h1
theorem c_Tf_isFor {Γ : pmE} {G : pmG} {n : Nat} {Q : pmPost} {a : Nat} {t : Trf} {x : Int32} (h : isTf G a t) (hQ : Q (some (.int (pB (t.2.2.2.1 = -1 ∨ t.2.2.2.1 = x)))) n G) : pV Γ m_Tf_isFor 0 [some (.ref a), some (.int x)] [] n G 0 0 Q := by
  refine V_aload_n d_Tf_isFor_0 rfl ?_
  refine V_getf d_Tf_isFor_1 f_Tf_22 h rfl ?_
  refine V_iconst (v := (-1)) d_Tf_isFor_4 (by decide +kernel) ?_
  refine V_icmp_eq (tgt := 16) d_Tf_isFor_5 (by decide) (fun hb5 => ?_) (fun hb5 => ?_)
  · refine V_iconst (v := nI 1) d_Tf_isFor_16 (by decide +kernel) ?_
    refine V_goto (tgt := 21) d_Tf_isFor_17 (by decide) ?_
    exact V_zreturn d_Tf_isFor_21 rfl (by first | exact pB_or _ | exact Or.inl rfl | exact Or.inr rfl) (pQ_t hQ (Or.inl hb5))
  · refine V_aload_n d_Tf_isFor_8 rfl ?_
    refine V_getf d_Tf_isFor_9 f_Tf_22 h rfl ?_
    refine V_iload_n d_Tf_isFor_12 rfl ?_
    refine V_icmp_ne (tgt := 20) d_Tf_isFor_13 (by decide) (fun hb13 => ?_) (fun hb13 => ?_)
    · refine V_iconst (v := nI 0) d_Tf_isFor_20 (by decide +kernel) ?_
      exact V_zreturn d_Tf_isFor_21 rfl (by first | exact pB_or _ | exact Or.inl rfl | exact Or.inr rfl) (pQ_f hQ (fun e => e.elim hb5 hb13))
    · refine V_iconst (v := nI 1) d_Tf_isFor_16 (by decide +kernel) ?_
      refine V_goto (tgt := 21) d_Tf_isFor_17 (by decide) ?_
      exact V_zreturn d_Tf_isFor_21 rfl (by first | exact pB_or _ | exact Or.inl rfl | exact Or.inr rfl) (pQ_t hQ (Or.inr hb13))
def dEmpU (D : Dfn) (i : Nat) : Dfn := (dP D, (dNi D, dI D), (dNf D, dF D), dNm D, dN D, dG D, (fun j => if j < i then 0 else dL D j), dC D)
def dRsU (v : Int32) (D : Dfn) (i : Nat) : Dfn := (dP D, (dNi D, dI D), (dNf D, dF D), dNm D, dN D, dG D, dL D, (fun j => if j < i then cd_rs v (dC D j) (dL D j) else dC D j))
theorem dEmpU_0 (D : Dfn) : dEmpU D 0 = D := by simp [dEmpU]
theorem dRsU_0 (v : Int32) (D : Dfn) : dRsU v D 0 = D := by simp [dRsU]
theorem dEmpU_s (D : Dfn) (i : Nat) : dSetM (dEmpU D i) i (dN D i) (dG D i) 0 (dC D i) = dEmpU D (i + 1) := by
  unfold dSetM dEmpU
  rw [upd_same, upd_same, up_same]
  congr 7
  funext j
  by_cases h : j = i
  · subst h; rw [va_up_self]; simp
  · rw [va_up_ne _ _ h]
    show (if j < i then 0 else dL D j) = _
    by_cases g : j < i
    · rw [if_pos g, if_pos (by omega)]
    · rw [if_neg g, if_neg (by omega)]
theorem dRsU_s (v : Int32) (D : Dfn) (i : Nat) : dSetM (dRsU v D i) i (dN D i) (dG D i) (dL D i) (cd_rs v (dC D i) (dL D i)) = dRsU v D (i + 1) := by
  unfold dSetM dRsU
  rw [upd_same, upd_same, up_same]
  congr 7
  funext j
  by_cases h : j = i
  · subst h; rw [va_up_self]; simp
  · rw [va_up_ne _ _ h]
    show (if j < i then cd_rs v (dC D j) (dL D j) else dC D j) = _
    by_cases g : j < i
    · rw [if_pos g, if_pos (by omega)]
    · rw [if_neg g, if_neg (by omega)]
set_option maxHeartbeats 1000000 in
theorem c_Tf_emptyAllCode {Γ : pmE} {G : pmG} {n : Nat} {Q : pmPost} {b : Nat} {D : Dfn} (h : isDef G b D) (hQ : ∀ G', isDef G' b (dEmpU D (dNm D)) → (∀ q, (q < b ∨ b + 17 ≤ q) → G' q = G q) → Q none n G') : pV Γ m_Tf_emptyAllCode 0 [some (.ref b), none] [] n G 0 0 Q := by
  have hnm4 : dNm D ≤ 4 := h.1.2.2.1
  have loop : ∀ (d i : Nat), i ≤ dNm D → dNm D - i < d → ∀ G1 : pmG, isDef G1 b (dEmpU D i) → (∀ q, (q < b ∨ b + 17 ≤ q) → G1 q = G q) → pV Γ m_Tf_emptyAllCode 2 [some (.ref b), some (.int (nI i))] [] n G1 0 0 Q := by
    intro d
    induction d with
    | zero => intro i _ hd; exact absurd hd (by omega)
    | succ d ih =>
      intro i hi hd G1 hD ho
      have h := hD
      obtain ⟨⟨hni, hnf, hnm, hln⟩, h1, ⟨f1, h2, h2'⟩, ⟨f2, h3, h3'⟩, ⟨f3, h4, h4'⟩, ⟨f4, h5, h5'⟩, h6, h7⟩ := h
      have hnm : dNm D ≤ 4 := hnm
      have h1 : G1 b = some (.inr (kDf, [.ref (b + 1), .ref (b + 2), .int (nI (dNi D)), .ref (b + 3), .int (nI (dNf D)), .ref (b + 4), .int (nI (dNm D))])) := h1
      refine V_iload_n d_Tf_emptyAllCode_2 rfl ?_
      refine V_aload_n d_Tf_emptyAllCode_3 rfl ?_
      refine V_getf d_Tf_emptyAllCode_4 f_Tf_28 h1 rfl ?_
      refine V_icmp_geN (tgt := 28) d_Tf_emptyAllCode_7 (by decide) (by omega) (by omega) (fun hb7 => ?_) (fun hb7 => ?_)
      · exact V_return d_Tf_emptyAllCode_28 rfl (hQ G1 (by rw [show i = dNm D by omega] at hD; exact hD) ho)
      · refine V_aload_n d_Tf_emptyAllCode_10 rfl ?_
        refine V_getf d_Tf_emptyAllCode_11 f_Tf_33 h1 rfl ?_
        refine V_iload_n d_Tf_emptyAllCode_14 rfl ?_
        refine V_aaload (j := i) d_Tf_emptyAllCode_15 rfl h5 rfl (by omega) (by omega) ?_
        rw [h5' i (by omega)]
        show pV Γ _ _ _ (.ref (b + 5 + 3 * i) :: _) _ _ _ _ _
        obtain ⟨hm, hc⟩ := h7 i (by show i < dNm D; omega)
        refine V_getf d_Tf_emptyAllCode_16 f_Tf_37 hm rfl ?_
        refine V_callV (As := []) (rest := []) (lo' := [some (.ref (b + 5 + 3 * i + 1))]) (bc1 := 0) (bs1 := 0) (bc' := 0) (bs' := 0) d_Tf_emptyAllCode_19 k_Tf_emptyAllCode_64 hc.2.1 rfl rfl rfl rfl (by rfl) (by rfl) ?_
        refine c_Cd_clear hc (fun G2 hc2 ho2 => ?_)
        show pV Γ m_Tf_emptyAllCode 22 [some (.ref b), some (.int (nI i))] [] _ G2 0 0 Q
        refine V_iincN d_Tf_emptyAllCode_22 rfl ?_
        show pV Γ _ _ [some (.ref b), some (.int (nI (i + 1)))] _ _ _ _ _ _
        refine V_goto (tgt := 2) d_Tf_emptyAllCode_25 (by decide) ?_
        refine ih (i + 1) (by omega) (by omega) G2 ?_ (fun q hq => by rw [ho2 q (by omega), ho q hq])
        rw [← dEmpU_s]
        exact hD.mth (by omega) ⟨(ho2 _ (by omega)).trans hm, hc2.congr (fun k hk => absurd hk (by omega))⟩ (fun q hq => ho2 q (by omega))
  refine V_iconst (v := nI 0) d_Tf_emptyAllCode_0 (by decide +kernel) ?_
  refine V_istore_n d_Tf_emptyAllCode_1 (Nat.le_of_ble_eq_true rfl) ?_
  show pV Γ _ _ [some (.ref b), some (.int (nI 0))] _ _ _ _ _ _
  exact loop (dNm D + 1) 0 (by omega) (by omega) G (by rw [dEmpU_0]; exact h) (fun q _ => rfl)
noncomputable def dChg (k : Nat) (v : Int32) (D : Dfn) : Dfn :=
  if k = 1 then dRsU v D (dNm D) else if k = 2 then dSetP D (upd (dP D) 3 v) else if k = 3 then pI (∃ j, j < dNm D ∧ dN D j = v) (dEmpU D (dNm D)) D else if k = 4 then (if dNm D = 0 then D else dSetM D 0 v (dG D 0) (dL D 0) (dC D 0)) else D
set_option maxHeartbeats 1000000 in
theorem c_Tf_change0 {Γ : pmE} {G : pmG} {n : Nat} {Q : pmPost} {a b : Nat} {D : Dfn} {p0 v on r0 : Int32} (ht : G a = some (.inr (kTf, [.int p0, .int (nI 0), .int v, .int on, .int r0]))) (h : isDef G b D) (hab : a < b ∨ b + 17 ≤ a) (hQ : ∀ G', isDef G' b D → (∀ q, (q < b ∨ b + 17 ≤ q) → G' q = G q) → Q none n G') : pV Γ m_Tf_change 0 [some (.ref a), some (.ref b), none] [] n G 0 0 Q := by
  have h0 := h
  obtain ⟨⟨hni, hnf, hnm, hln⟩, h1, ⟨f1, h2, h2'⟩, ⟨f2, h3, h3'⟩, ⟨f3, h4, h4'⟩, ⟨f4, h5, h5'⟩, h6, h7⟩ := h
  refine V_aload_n d_Tf_change_0 rfl ?_
  refine V_getf d_Tf_change_1 f_Tf_15 ht rfl ?_
  refine V_tableOut (tgt := 125) d_Tf_change_4 (by decide) (by decide) ?_
  exact V_return d_Tf_change_125 rfl (hQ G h0 (fun q _ => rfl))
set_option maxHeartbeats 1000000 in
theorem c_Tf_change1 {Γ : pmE} {G : pmG} {n : Nat} {Q : pmPost} {a b : Nat} {D : Dfn} {p0 v on r0 : Int32} (ht : G a = some (.inr (kTf, [.int p0, .int (nI 1), .int v, .int on, .int r0]))) (h : isDef G b D) (hab : a < b ∨ b + 17 ≤ a) (hQ : ∀ G', isDef G' b (dRsU v D (dNm D)) → (∀ q, (q < b ∨ b + 17 ≤ q) → G' q = G q) → Q none n G') : pV Γ m_Tf_change 0 [some (.ref a), some (.ref b), none] [] n G 0 0 Q := by
  have h0 := h
  obtain ⟨⟨hni, hnf, hnm, hln⟩, h1, ⟨f1, h2, h2'⟩, ⟨f2, h3, h3'⟩, ⟨f3, h4, h4'⟩, ⟨f4, h5, h5'⟩, h6, h7⟩ := h
  have loop : ∀ (d i : Nat), i ≤ dNm D → dNm D - i < d → ∀ G1 : pmG, isDef G1 b (dRsU v D i) → G1 a = some (.inr (kTf, [.int p0, .int (nI 1), .int v, .int on, .int r0])) → (∀ q, (q < b ∨ b + 17 ≤ q) → G1 q = G q) → pV Γ m_Tf_change 38 [some (.ref a), some (.ref b), some (.int (nI i))] [] n G1 0 0 Q := by
    intro d
    induction d with
    | zero => intro i _ hd; exact absurd hd (by omega)
    | succ d ih =>
      intro i hi hd G1 hD ht ho
      have h := hD
      obtain ⟨⟨hni, hnf, hnm, hln⟩, h1, ⟨f1, h2, h2'⟩, ⟨f2, h3, h3'⟩, ⟨f3, h4, h4'⟩, ⟨f4, h5, h5'⟩, h6, h7⟩ := h
      have hnm : dNm D ≤ 4 := hnm
      have h1 : G1 b = some (.inr (kDf, [.ref (b + 1), .ref (b + 2), .int (nI (dNi D)), .ref (b + 3), .int (nI (dNf D)), .ref (b + 4), .int (nI (dNm D))])) := h1
      refine V_iload_n d_Tf_change_38 rfl ?_
      refine V_aload_n d_Tf_change_39 rfl ?_
      refine V_getf d_Tf_change_40 f_Tf_28 h1 rfl ?_
      refine V_icmp_geN (tgt := 68) d_Tf_change_43 (by decide) (by omega) (by omega) (fun hb43 => ?_) (fun hb43 => ?_)
      · refine V_goto (tgt := 125) d_Tf_change_68 (by decide) ?_
        exact V_return d_Tf_change_125 rfl (hQ G1 (by rw [show i = dNm D by omega] at hD; exact hD) ho)
      · refine V_aload_n d_Tf_change_46 rfl ?_
        refine V_getf d_Tf_change_47 f_Tf_33 h1 rfl ?_
        refine V_iload_n d_Tf_change_50 rfl ?_
        refine V_aaload (j := i) d_Tf_change_51 rfl h5 rfl (by omega) (by omega) ?_
        rw [h5' i (by omega)]
        show pV Γ _ _ _ (.ref (b + 5 + 3 * i) :: _) _ _ _ _ _
        obtain ⟨hm, hc⟩ := h7 i (by show i < dNm D; omega)
        refine V_getf d_Tf_change_52 f_Tf_37 hm rfl ?_
        refine V_aload_n d_Tf_change_55 rfl ?_
        refine V_getf d_Tf_change_56 f_Tf_19 ht rfl ?_
        refine V_callV (As := [.int v]) (rest := []) (lo' := [some (.ref (b + 5 + 3 * i + 1)), some (.int v), none]) (bc1 := 0) (bs1 := 0) (bc' := 0) (bs' := 0) d_Tf_change_59 k_Tf_change_43 hc.2.1 rfl rfl rfl rfl (by rfl) (by rfl) ?_
        refine c_Cd_raiseAdditions hc (fun G2 hc2 ho2 => ?_)
        show pV Γ m_Tf_change 62 [some (.ref a), some (.ref b), some (.int (nI i))] [] _ G2 0 0 Q
        refine V_iincN d_Tf_change_62 rfl ?_
        show pV Γ _ _ [some (.ref a), some (.ref b), some (.int (nI (i + 1)))] _ _ _ _ _ _
        refine V_goto (tgt := 38) d_Tf_change_65 (by decide) ?_
        refine ih (i + 1) (by omega) (by omega) G2 ?_ ((ho2 _ (by omega)).trans ht) (fun q hq => by rw [ho2 q (by omega), ho q hq])
        rw [← dRsU_s]
        refine hD.mth (by omega) ⟨(ho2 _ (by omega)).trans hm, ?_⟩ (fun q hq => ho2 q (by omega))
        have e : dC (dRsU v D i) i = dC D i := if_neg (by omega)
        rw [e] at hc2
        exact hc2
  refine V_aload_n d_Tf_change_0 rfl ?_
  refine V_getf d_Tf_change_1 f_Tf_15 ht rfl ?_
  refine V_tableIn (tgt := 36) d_Tf_change_4 (by decide) (by decide) rfl (by decide) ?_
  refine V_iconst (v := nI 0) d_Tf_change_36 (by decide +kernel) ?_
  refine V_istore_n d_Tf_change_37 (Nat.le_of_ble_eq_true rfl) ?_
  show pV Γ _ _ [some (.ref a), some (.ref b), some (.int (nI 0))] _ _ _ _ _ _
  exact loop (dNm D + 1) 0 (by omega) (by omega) G (by rw [dRsU_0]; exact h0) ht (fun q _ => rfl)
set_option maxHeartbeats 1000000 in
theorem c_Tf_change2 {Γ : pmE} {G : pmG} {n : Nat} {Q : pmPost} {a b : Nat} {D : Dfn} {p0 v on r0 : Int32} (ht : G a = some (.inr (kTf, [.int p0, .int (nI 2), .int v, .int on, .int r0]))) (h : isDef G b D) (hab : a < b ∨ b + 17 ≤ a) (hQ : ∀ G', isDef G' b (dSetP D (upd (dP D) 3 v)) → (∀ q, (q < b ∨ b + 17 ≤ q) → G' q = G q) → Q none n G') : pV Γ m_Tf_change 0 [some (.ref a), some (.ref b), none] [] n G 0 0 Q := by
  have h0 := h
  obtain ⟨⟨hni, hnf, hnm, hln⟩, h1, ⟨f1, h2, h2'⟩, ⟨f2, h3, h3'⟩, ⟨f3, h4, h4'⟩, ⟨f4, h5, h5'⟩, h6, h7⟩ := h
  refine V_aload_n d_Tf_change_0 rfl ?_
  refine V_getf d_Tf_change_1 f_Tf_15 ht rfl ?_
  refine V_tableIn (tgt := 71) d_Tf_change_4 (by decide) (by decide) rfl (by decide) ?_
  refine V_aload_n d_Tf_change_71 rfl ?_
  refine V_getf d_Tf_change_72 f_Tf_49 h1 rfl ?_
  refine V_iconst (v := nI 3) d_Tf_change_75 (by decide +kernel) ?_
  refine V_aload_n d_Tf_change_76 rfl ?_
  refine V_getf d_Tf_change_77 f_Tf_19 ht rfl ?_
  refine V_iastore (j := 3) d_Tf_change_80 rfl h2 rfl (by omega) (by omega) (fun G1 h2z ho1 => ?_)
  have h2 := h2z
  have h1 := (ho1 _ (by omega)).trans h1
  have h3 := (ho1 _ (by omega)).trans h3
  have h4 := (ho1 _ (by omega)).trans h4
  have h5 := (ho1 _ (by omega)).trans h5
  have ht := (ho1 _ (by omega)).trans ht
  refine V_goto (tgt := 125) d_Tf_change_81 (by decide) ?_
  refine V_return d_Tf_change_125 rfl (hQ G1 (h0.parts h2 (fun k hk => ?_) ho1) (fun q hq => ho1 q (by omega)))
  by_cases g : k = 3
  · rw [g, pk_us, pk_us]
  · rw [pk_un g, pk_un g]; exact h2' k hk
set_option maxHeartbeats 1000000 in
theorem c_Tf_change3 {Γ : pmE} {G : pmG} {n : Nat} {Q : pmPost} {a b : Nat} {D : Dfn} {p0 v on r0 : Int32} (ht : G a = some (.inr (kTf, [.int p0, .int (nI 3), .int v, .int on, .int r0]))) (h : isDef G b D) (hab : a < b ∨ b + 17 ≤ a) (hQ : ∀ G', isDef G' b (pI (∃ j, j < dNm D ∧ dN D j = v) (dEmpU D (dNm D)) D) → (∀ q, (q < b ∨ b + 17 ≤ q) → G' q = G q) → Q none n G') : pV Γ m_Tf_change 0 [some (.ref a), some (.ref b), none] [] n G 0 0 Q := by
  have h0 := h
  obtain ⟨⟨hni, hnf, hnm, hln⟩, h1, ⟨f1, h2, h2'⟩, ⟨f2, h3, h3'⟩, ⟨f3, h4, h4'⟩, ⟨f4, h5, h5'⟩, h6, h7⟩ := h
  refine V_aload_n d_Tf_change_0 rfl ?_
  refine V_getf d_Tf_change_1 f_Tf_15 ht rfl ?_
  refine V_tableIn (tgt := 84) d_Tf_change_4 (by decide) (by decide) rfl (by decide) ?_
  refine V_aload_n d_Tf_change_84 rfl ?_
  refine V_aload_n d_Tf_change_85 rfl ?_
  refine V_getf d_Tf_change_86 f_Tf_19 ht rfl ?_
  refine V_callV (As := [.int v]) (rest := []) (lo' := [some (.ref b), some (.int v), none]) (bc1 := 0) (bs1 := 0) (bc' := 0) (bs' := 0) d_Tf_change_89 k_Tf_change_53 h1 rfl rfl rfl rfl (by rfl) (by rfl) ?_
  refine c_Df_findMethod h0 (fun hn => ?_) (fun k hk he hf => ?_)
  · show pV Γ m_Tf_change 92 [some (.ref a), some (.ref b), none] [.null] _ G 0 0 Q
    refine V_ifnullN (tgt := 125) d_Tf_change_92 (by decide) ?_
    exact V_return d_Tf_change_125 rfl (hQ G (by rw [pI_f (fun ⟨j, hj, e⟩ => hn j hj e)]; exact h0) (fun q _ => rfl))
  · show pV Γ m_Tf_change 92 [some (.ref a), some (.ref b), none] [.ref (b + 5 + 3 * k)] _ G 0 0 Q
    refine V_ifnull d_Tf_change_92 ?_
    refine V_aload_n d_Tf_change_95 rfl ?_
    refine V_callS (As := [.ref b]) (rest := []) (lo' := [some (.ref b), none]) (bc1 := 0) (bs1 := 0) (bc' := 0) (bs' := 0) d_Tf_change_96 k_Tf_change_57 rfl rfl rfl rfl (by rfl) (by rfl) ?_
    refine c_Tf_emptyAllCode h0 (fun G1 hD ho1 => ?_)
    show pV Γ m_Tf_change 99 [some (.ref a), some (.ref b), none] [] _ G1 0 0 Q
    refine V_goto (tgt := 125) d_Tf_change_99 (by decide) ?_
    exact V_return d_Tf_change_125 rfl (hQ G1 (by rw [pI_t ⟨k, hk, he⟩]; exact hD) ho1)
set_option maxHeartbeats 1000000 in
theorem c_Tf_change4 {Γ : pmE} {G : pmG} {n : Nat} {Q : pmPost} {a b : Nat} {D : Dfn} {p0 v on r0 : Int32} (ht : G a = some (.inr (kTf, [.int p0, .int (nI 4), .int v, .int on, .int r0]))) (h : isDef G b D) (hab : a < b ∨ b + 17 ≤ a) (hQ : ∀ G', isDef G' b (if dNm D = 0 then D else dSetM D 0 v (dG D 0) (dL D 0) (dC D 0)) → (∀ q, (q < b ∨ b + 17 ≤ q) → G' q = G q) → Q none n G') : pV Γ m_Tf_change 0 [some (.ref a), some (.ref b), none] [] n G 0 0 Q := by
  have h0 := h
  obtain ⟨⟨hni, hnf, hnm, hln⟩, h1, ⟨f1, h2, h2'⟩, ⟨f2, h3, h3'⟩, ⟨f3, h4, h4'⟩, ⟨f4, h5, h5'⟩, h6, h7⟩ := h
  refine V_aload_n d_Tf_change_0 rfl ?_
  refine V_getf d_Tf_change_1 f_Tf_15 ht rfl ?_
  refine V_tableIn (tgt := 102) d_Tf_change_4 (by decide) (by decide) rfl (by decide) ?_
  refine V_aload_n d_Tf_change_102 rfl ?_
  refine V_getf d_Tf_change_103 f_Tf_28 h1 rfl ?_
  refine V_if_leN (tgt := 125) d_Tf_change_106 (by decide) (by omega) (fun hb106 => ?_) (fun hb106 => ?_)
  · exact V_return d_Tf_change_125 rfl (hQ G (by rw [if_pos hb106]; exact h0) (fun q _ => rfl))
  · refine V_aload_n d_Tf_change_109 rfl ?_
    refine V_getf d_Tf_change_110 f_Tf_33 h1 rfl ?_
    refine V_iconst (v := nI 0) d_Tf_change_113 (by decide +kernel) ?_
    refine V_aaload (j := 0) d_Tf_change_114 rfl h5 rfl (by omega) (by omega) ?_
    rw [h5' 0 (by omega)]
    obtain ⟨hm, hc⟩ := h7 0 (by omega)
    show pV Γ _ _ _ (.ref (b + 5 + 3 * 0) :: _) _ _ _ _ _
    refine V_aload_n d_Tf_change_115 rfl ?_
    refine V_getf d_Tf_change_116 f_Tf_19 ht rfl ?_
    refine V_putf d_Tf_change_119 f_Tf_61 p_Tf_61 hm rfl rfl rfl (fun G1 hmz ho1 => ?_)
    have hm : G1 (b + 5 + 3 * 0) = some (.inr (kMt, [.int v, .int (dG D 0), .ref (b + 5 + 3 * 0 + 1)])) := hmz
    have ht := (ho1 _ (by omega)).trans ht
    have hc := hc.kept (fun q g1 g2 => ho1 q (by omega))
    refine V_goto (tgt := 125) d_Tf_change_122 (by decide) ?_
    exact V_return d_Tf_change_125 rfl (hQ G1 (by rw [if_neg (by omega)]; exact h0.mth (by omega) ⟨hm, hc⟩ (fun q hq => ho1 q (by omega))) (fun q hq => ho1 q (by omega)))
theorem c_Tf_change {Γ : pmE} {G : pmG} {n : Nat} {Q : pmPost} {a b : Nat} {D : Dfn} {t : Trf} (ht : isTf G a t) (hk : t.2.1 ≤ 4) (h : isDef G b D) (hab : a < b ∨ b + 17 ≤ a) (hQ : ∀ G', isDef G' b (dChg t.2.1 t.2.2.1 D) → (∀ q, (q < b ∨ b + 17 ≤ q) → G' q = G q) → Q none n G') : pV Γ m_Tf_change 0 [some (.ref a), some (.ref b), none] [] n G 0 0 Q := by
  obtain ⟨pr, k, v, on, rp⟩ := t
  have hk : k ≤ 4 := hk
  unfold isTf at ht
  dsimp only at ht hQ
  rcases (show k = 0 ∨ k = 1 ∨ k = 2 ∨ k = 3 ∨ k = 4 by omega) with rfl | rfl | rfl | rfl | rfl
  · exact c_Tf_change0 ht h hab hQ
  · exact c_Tf_change1 ht h hab hQ
  · exact c_Tf_change2 ht h hab hQ
  · exact c_Tf_change3 ht h hab hQ
  · exact c_Tf_change4 ht h hab hQ
end
