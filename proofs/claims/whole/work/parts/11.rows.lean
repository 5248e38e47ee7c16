/-! V's rows: an instruction a row. -/
section VROWS
variable {Γ : pmE} {M : pmM} {pc : Nat} {lo : pmLo} {st : List Value} {n : Nat} {G : pmG} {bc bs : Nat} {Q : pmPost}
theorem V_iconst {z : Int} {v : Int32} (hd : decode M.2.1 pc = .ok (.iconst z, 1)) (hv : Int32.ofInt z = v) (k : pV Γ M (pc + 1) lo (.int v :: st) n G bc bs Q) : pV Γ M pc lo (st) n G bc bs Q :=
  fun p e s m args below meth c R A Qc mc ms X ls H locs cells slots Y => lv_iconst X.1 X.2.1 hd hv (k p e s m args below meth c R A Qc mc ms X ls H locs cells slots Y)
theorem V_bipush {z : Int} {v : Int32} (hd : decode M.2.1 pc = .ok (.bipush z, 2)) (hv : (Int8.ofInt z).toInt32 = v) (k : pV Γ M (pc + 2) lo (.int v :: st) n G bc bs Q) : pV Γ M pc lo (st) n G bc bs Q :=
  fun p e s m args below meth c R A Qc mc ms X ls H locs cells slots Y => lv_bipush X.1 X.2.1 hd hv (k p e s m args below meth c R A Qc mc ms X ls H locs cells slots Y)
theorem V_sipush {z : Int} {v : Int32} (hd : decode M.2.1 pc = .ok (.sipush z, 3)) (hv : (Int16.ofInt z).toInt32 = v) (k : pV Γ M (pc + 3) lo (.int v :: st) n G bc bs Q) : pV Γ M pc lo (st) n G bc bs Q :=
  fun p e s m args below meth c R A Qc mc ms X ls H locs cells slots Y => lv_sipush X.1 X.2.1 hd hv (k p e s m args below meth c R A Qc mc ms X ls H locs cells slots Y)
theorem V_null (hd : decode M.2.1 pc = .ok (.aconst_null, 1)) (k : pV Γ M (pc + 1) lo (.null :: st) n G bc bs Q) : pV Γ M pc lo (st) n G bc bs Q :=
  fun p e s m args below meth c R A Qc mc ms X ls H locs cells slots Y => lv_null X.1 X.2.1 hd (k p e s m args below meth c R A Qc mc ms X ls H locs cells slots Y)
theorem V_iload_n {i : Fin 4} {x : Int32} (hd : decode M.2.1 pc = .ok (.iload_n i, 1)) (hl : lo[(i : Nat)]? = some (some (.int x))) (k : pV Γ M (pc + 1) lo (.int x :: st) n G bc bs Q) : pV Γ M pc lo (st) n G bc bs Q :=
  fun p e s m args below meth c R A Qc mc ms X ls H locs cells slots Y => lv_iload_n X.1 X.2.1 hd rfl (Y.1.get hl) (k p e s m args below meth c R A Qc mc ms X ls H locs cells slots Y)
theorem V_iload {i : Nat} {x : Int32} (hd : decode M.2.1 pc = .ok (.iload i, 2)) (hl : lo[i]? = some (some (.int x))) (k : pV Γ M (pc + 2) lo (.int x :: st) n G bc bs Q) : pV Γ M pc lo (st) n G bc bs Q :=
  fun p e s m args below meth c R A Qc mc ms X ls H locs cells slots Y => lv_iload X.1 X.2.1 hd (Y.1.get hl) (k p e s m args below meth c R A Qc mc ms X ls H locs cells slots Y)
theorem V_aload_n {i : Fin 4} {x : Nat} (hd : decode M.2.1 pc = .ok (.aload_n i, 1)) (hl : lo[(i : Nat)]? = some (some (.ref x))) (k : pV Γ M (pc + 1) lo (.ref x :: st) n G bc bs Q) : pV Γ M pc lo (st) n G bc bs Q :=
  fun p e s m args below meth c R A Qc mc ms X ls H locs cells slots Y => lv_aload_n X.1 X.2.1 hd rfl (Y.1.get hl) (k p e s m args below meth c R A Qc mc ms X ls H locs cells slots Y)
theorem V_aload {i : Nat} {x : Nat} (hd : decode M.2.1 pc = .ok (.aload i, 2)) (hl : lo[i]? = some (some (.ref x))) (k : pV Γ M (pc + 2) lo (.ref x :: st) n G bc bs Q) : pV Γ M pc lo (st) n G bc bs Q :=
  fun p e s m args below meth c R A Qc mc ms X ls H locs cells slots Y => lv_aload X.1 X.2.1 hd (Y.1.get hl) (k p e s m args below meth c R A Qc mc ms X ls H locs cells slots Y)
theorem V_aload_nN {i : Fin 4} (hd : decode M.2.1 pc = .ok (.aload_n i, 1)) (hl : lo[(i : Nat)]? = some (some .null)) (k : pV Γ M (pc + 1) lo (.null :: st) n G bc bs Q) : pV Γ M pc lo (st) n G bc bs Q :=
  fun p e s m args below meth c R A Qc mc ms X ls H locs cells slots Y => lv_aload_nN X.1 X.2.1 hd rfl (Y.1.get hl) (k p e s m args below meth c R A Qc mc ms X ls H locs cells slots Y)
theorem V_aloadN {i : Nat} (hd : decode M.2.1 pc = .ok (.aload i, 2)) (hl : lo[i]? = some (some .null)) (k : pV Γ M (pc + 2) lo (.null :: st) n G bc bs Q) : pV Γ M pc lo (st) n G bc bs Q :=
  fun p e s m args below meth c R A Qc mc ms X ls H locs cells slots Y => lv_aloadN X.1 X.2.1 hd (Y.1.get hl) (k p e s m args below meth c R A Qc mc ms X ls H locs cells slots Y)
theorem V_iadd {x y : Int32} (hd : decode M.2.1 pc = .ok (.iadd, 1)) (k : pV Γ M (pc + 1) lo (.int (x + y) :: st) n G bc bs Q) : pV Γ M pc lo (.int y :: .int x :: st) n G bc bs Q :=
  fun p e s m args below meth c R A Qc mc ms X ls H locs cells slots Y => lv_iadd X.1 X.2.1 hd (k p e s m args below meth c R A Qc mc ms X ls H locs cells slots Y)
theorem V_isub {x y : Int32} (hd : decode M.2.1 pc = .ok (.isub, 1)) (k : pV Γ M (pc + 1) lo (.int (x - y) :: st) n G bc bs Q) : pV Γ M pc lo (.int y :: .int x :: st) n G bc bs Q :=
  fun p e s m args below meth c R A Qc mc ms X ls H locs cells slots Y => lv_isub X.1 X.2.1 hd (k p e s m args below meth c R A Qc mc ms X ls H locs cells slots Y)
theorem V_imul {x y : Int32} (hd : decode M.2.1 pc = .ok (.imul, 1)) (k : pV Γ M (pc + 1) lo (.int (x * y) :: st) n G bc bs Q) : pV Γ M pc lo (.int y :: .int x :: st) n G bc bs Q :=
  fun p e s m args below meth c R A Qc mc ms X ls H locs cells slots Y => lv_imul X.1 X.2.1 hd (k p e s m args below meth c R A Qc mc ms X ls H locs cells slots Y)
theorem V_iand {x y : Int32} (hd : decode M.2.1 pc = .ok (.iand, 1)) (k : pV Γ M (pc + 1) lo (.int (x &&& y) :: st) n G bc bs Q) : pV Γ M pc lo (.int y :: .int x :: st) n G bc bs Q :=
  fun p e s m args below meth c R A Qc mc ms X ls H locs cells slots Y => lv_iand X.1 X.2.1 hd (k p e s m args below meth c R A Qc mc ms X ls H locs cells slots Y)
theorem V_idiv {x y : Int32} (hd : decode M.2.1 pc = .ok (.idiv, 1)) (hne : ¬ y = 0) (k : pV Γ M (pc + 1) lo (.int (x / y) :: st) n G bc bs Q) : pV Γ M pc lo (.int y :: .int x :: st) n G bc bs Q :=
  fun p e s m args below meth c R A Qc mc ms X ls H locs cells slots Y => lv_idiv X.1 X.2.1 hd hne (k p e s m args below meth c R A Qc mc ms X ls H locs cells slots Y)
theorem V_irem {x y : Int32} (hd : decode M.2.1 pc = .ok (.irem, 1)) (hne : ¬ y = 0) (k : pV Γ M (pc + 1) lo (.int (x - x / y * y) :: st) n G bc bs Q) : pV Γ M pc lo (.int y :: .int x :: st) n G bc bs Q :=
  fun p e s m args below meth c R A Qc mc ms X ls H locs cells slots Y => lv_irem X.1 X.2.1 hd hne (k p e s m args below meth c R A Qc mc ms X ls H locs cells slots Y)
theorem V_ineg {x : Int32} (hd : decode M.2.1 pc = .ok (.ineg, 1)) (k : pV Γ M (pc + 1) lo (.int (-x) :: st) n G bc bs Q) : pV Γ M pc lo (.int x :: st) n G bc bs Q :=
  fun p e s m args below meth c R A Qc mc ms X ls H locs cells slots Y => lv_ineg X.1 X.2.1 hd (k p e s m args below meth c R A Qc mc ms X ls H locs cells slots Y)
theorem V_dup {u : Value} (hd : decode M.2.1 pc = .ok (.dup, 1)) (hu : u.category = 1) (k : pV Γ M (pc + 1) lo (u :: u :: st) n G bc bs Q) : pV Γ M pc lo (u :: st) n G bc bs Q :=
  fun p e s m args below meth c R A Qc mc ms X ls H locs cells slots Y => lv_dup X.1 X.2.1 hd hu (k p e s m args below meth c R A Qc mc ms X ls H locs cells slots Y)
theorem V_pop {u : Value} (hd : decode M.2.1 pc = .ok (.pop, 1)) (hu : u.category = 1) (k : pV Γ M (pc + 1) lo (st) n G bc bs Q) : pV Γ M pc lo (u :: st) n G bc bs Q :=
  fun p e s m args below meth c R A Qc mc ms X ls H locs cells slots Y => lv_pop X.1 X.2.1 hd hu (k p e s m args below meth c R A Qc mc ms X ls H locs cells slots Y)
theorem V_dup2 {u v : Value} (hd : decode M.2.1 pc = .ok (.dup2, 1)) (hu : u.category = 1) (hv : v.category = 1) (k : pV Γ M (pc + 1) lo (u :: v :: u :: v :: st) n G bc bs Q) : pV Γ M pc lo (u :: v :: st) n G bc bs Q :=
  fun p e s m args below meth c R A Qc mc ms X ls H locs cells slots Y => lv_dup2_11 X.1 X.2.1 hd hu hv (k p e s m args below meth c R A Qc mc ms X ls H locs cells slots Y)
theorem V_dup_x1 {u v : Value} (hd : decode M.2.1 pc = .ok (.dup_x1, 1)) (hu : u.category = 1) (hv : v.category = 1) (k : pV Γ M (pc + 1) lo (u :: v :: u :: st) n G bc bs Q) : pV Γ M pc lo (u :: v :: st) n G bc bs Q :=
  fun p e s m args below meth c R A Qc mc ms X ls H locs cells slots Y => lv_dup_x1 X.1 X.2.1 hd hu hv (k p e s m args below meth c R A Qc mc ms X ls H locs cells slots Y)
theorem V_istore_n {i : Fin 4} {x : Int32} (hd : decode M.2.1 pc = .ok (.istore_n i, 1)) (hi : (i : Nat) < lo.length) (k : pV Γ M (pc + 1) (lo.set (i : Nat) (some (.int x))) st n G bc bs Q) : pV Γ M pc lo (.int x :: st) n G bc bs Q := by
  intro p e s m args below meth c R A Qc mc ms X ls H locs cells slots Y
  obtain ⟨⟨lv, h1, h2, h3⟩, Y2⟩ := Y
  refine lv_istore_n X.1 X.2.1 hd rfl h1 (by rw [← h2]; exact hi) rfl fun ls' h' => ?_
  exact k p e s m args below meth c R A Qc mc ms X ls' H locs cells slots ⟨pmL.set h2 h3 rfl h', Y2⟩
theorem V_istore {i : Nat} {x : Int32} (hd : decode M.2.1 pc = .ok (.istore i, 2)) (hi : i < lo.length) (k : pV Γ M (pc + 2) (lo.set i (some (.int x))) st n G bc bs Q) : pV Γ M pc lo (.int x :: st) n G bc bs Q := by
  intro p e s m args below meth c R A Qc mc ms X ls H locs cells slots Y
  obtain ⟨⟨lv, h1, h2, h3⟩, Y2⟩ := Y
  refine lv_istore X.1 X.2.1 hd h1 (by rw [← h2]; exact hi) rfl fun ls' h' => ?_
  exact k p e s m args below meth c R A Qc mc ms X ls' H locs cells slots ⟨pmL.set h2 h3 rfl h', Y2⟩
theorem V_astore_n {i : Fin 4} {x : Nat} (hd : decode M.2.1 pc = .ok (.astore_n i, 1)) (hi : (i : Nat) < lo.length) (k : pV Γ M (pc + 1) (lo.set (i : Nat) (some (.ref x))) st n G bc bs Q) : pV Γ M pc lo (.ref x :: st) n G bc bs Q := by
  intro p e s m args below meth c R A Qc mc ms X ls H locs cells slots Y
  obtain ⟨⟨lv, h1, h2, h3⟩, Y2⟩ := Y
  refine lv_astore_n X.1 X.2.1 hd rfl h1 (by rw [← h2]; exact hi) rfl fun ls' h' => ?_
  exact k p e s m args below meth c R A Qc mc ms X ls' H locs cells slots ⟨pmL.set h2 h3 rfl h', Y2⟩
theorem V_astore {i : Nat} {x : Nat} (hd : decode M.2.1 pc = .ok (.astore i, 2)) (hi : i < lo.length) (k : pV Γ M (pc + 2) (lo.set i (some (.ref x))) st n G bc bs Q) : pV Γ M pc lo (.ref x :: st) n G bc bs Q := by
  intro p e s m args below meth c R A Qc mc ms X ls H locs cells slots Y
  obtain ⟨⟨lv, h1, h2, h3⟩, Y2⟩ := Y
  refine lv_astore X.1 X.2.1 hd h1 (by rw [← h2]; exact hi) rfl fun ls' h' => ?_
  exact k p e s m args below meth c R A Qc mc ms X ls' H locs cells slots ⟨pmL.set h2 h3 rfl h', Y2⟩
theorem V_astore_nN {i : Fin 4} (hd : decode M.2.1 pc = .ok (.astore_n i, 1)) (hi : (i : Nat) < lo.length) (k : pV Γ M (pc + 1) (lo.set (i : Nat) (some (.null))) st n G bc bs Q) : pV Γ M pc lo (.null :: st) n G bc bs Q := by
  intro p e s m args below meth c R A Qc mc ms X ls H locs cells slots Y
  obtain ⟨⟨lv, h1, h2, h3⟩, Y2⟩ := Y
  refine lv_astore_nN X.1 X.2.1 hd rfl h1 (by rw [← h2]; exact hi) rfl fun ls' h' => ?_
  exact k p e s m args below meth c R A Qc mc ms X ls' H locs cells slots ⟨pmL.set h2 h3 rfl h', Y2⟩
theorem V_astoreN {i : Nat} (hd : decode M.2.1 pc = .ok (.astore i, 2)) (hi : i < lo.length) (k : pV Γ M (pc + 2) (lo.set i (some (.null))) st n G bc bs Q) : pV Γ M pc lo (.null :: st) n G bc bs Q := by
  intro p e s m args below meth c R A Qc mc ms X ls H locs cells slots Y
  obtain ⟨⟨lv, h1, h2, h3⟩, Y2⟩ := Y
  refine lv_astoreN X.1 X.2.1 hd h1 (by rw [← h2]; exact hi) rfl fun ls' h' => ?_
  exact k p e s m args below meth c R A Qc mc ms X ls' H locs cells slots ⟨pmL.set h2 h3 rfl h', Y2⟩
theorem V_iinc {i : Nat} {z : Int} {x v : Int32} (hd : decode M.2.1 pc = .ok (.iinc i z, 3)) (hl : lo[i]? = some (some (.int x))) (hv : x + Int32.ofInt z = v) (k : pV Γ M (pc + 3) (lo.set i (some (.int v))) st n G bc bs Q) : pV Γ M pc lo st n G bc bs Q := by
  intro p e s m args below meth c R A Qc mc ms X ls H locs cells slots Y
  obtain ⟨⟨lv, h1, h2, h3⟩, Y2⟩ := Y
  obtain ⟨j, hj⟩ := List.getElem?_of_mem (h3 i _ hl).1
  have hi : i < lo.length := (List.getElem?_eq_some_iff.mp hl).1
  refine lv_iinc X.1 X.2.1 hd h1 hj hv (by rw [← h2]; exact hi) rfl fun ls' h' => ?_
  exact k p e s m args below meth c R A Qc mc ms X ls' H locs cells slots ⟨pmL.set h2 h3 rfl h', Y2⟩
theorem V_goto {off : Int} {tgt : Nat} (hd : decode M.2.1 pc = .ok (.goto off, 3)) (ht : (pc : Int) + off = (tgt : Int)) (k : pV Γ M tgt lo st n G bc bs Q) : pV Γ M pc lo st n G bc bs Q :=
  fun p e s m args below meth c R A Qc mc ms X ls H locs cells slots Y => lv_goto X.1 X.2.1 hd ht (k p e s m args below meth c R A Qc mc ms X ls H locs cells slots Y)
theorem V_icmp_eq {x y : Int32} {off : Int} {tgt : Nat} (hd : decode M.2.1 pc = .ok (.if_icmp .eq off, 3)) (ht : (pc : Int) + off = (tgt : Int)) (kt : x = y → pV Γ M tgt lo st n G bc bs Q) (kf : ¬ (x = y) → pV Γ M (pc + 3) lo st n G bc bs Q) : pV Γ M pc lo (.int y :: .int x :: st) n G bc bs Q :=
  fun p e s m args below meth c R A Qc mc ms X ls H locs cells slots Y => lv_icmp_eq X.1 X.2.1 hd ht (fun h => kt h p e s m args below meth c R A Qc mc ms X ls H locs cells slots Y) (fun h => kf h p e s m args below meth c R A Qc mc ms X ls H locs cells slots Y)
theorem V_if_eq {x : Int32} {off : Int} {tgt : Nat} (hd : decode M.2.1 pc = .ok (.ifCond .eq off, 3)) (ht : (pc : Int) + off = (tgt : Int)) (kt : x = 0 → pV Γ M tgt lo st n G bc bs Q) (kf : ¬ (x = 0) → pV Γ M (pc + 3) lo st n G bc bs Q) : pV Γ M pc lo (.int x :: st) n G bc bs Q :=
  fun p e s m args below meth c R A Qc mc ms X ls H locs cells slots Y => lv_if_eq X.1 X.2.1 hd ht (fun h => kt h p e s m args below meth c R A Qc mc ms X ls H locs cells slots Y) (fun h => kf h p e s m args below meth c R A Qc mc ms X ls H locs cells slots Y)
theorem V_icmp_ne {x y : Int32} {off : Int} {tgt : Nat} (hd : decode M.2.1 pc = .ok (.if_icmp .ne off, 3)) (ht : (pc : Int) + off = (tgt : Int)) (kt : ¬ x = y → pV Γ M tgt lo st n G bc bs Q) (kf : x = y → pV Γ M (pc + 3) lo st n G bc bs Q) : pV Γ M pc lo (.int y :: .int x :: st) n G bc bs Q :=
  fun p e s m args below meth c R A Qc mc ms X ls H locs cells slots Y => lv_icmp_ne X.1 X.2.1 hd ht (fun h => kt h p e s m args below meth c R A Qc mc ms X ls H locs cells slots Y) (fun h => kf h p e s m args below meth c R A Qc mc ms X ls H locs cells slots Y)
theorem V_if_ne {x : Int32} {off : Int} {tgt : Nat} (hd : decode M.2.1 pc = .ok (.ifCond .ne off, 3)) (ht : (pc : Int) + off = (tgt : Int)) (kt : ¬ x = 0 → pV Γ M tgt lo st n G bc bs Q) (kf : x = 0 → pV Γ M (pc + 3) lo st n G bc bs Q) : pV Γ M pc lo (.int x :: st) n G bc bs Q :=
  fun p e s m args below meth c R A Qc mc ms X ls H locs cells slots Y => lv_if_ne X.1 X.2.1 hd ht (fun h => kt h p e s m args below meth c R A Qc mc ms X ls H locs cells slots Y) (fun h => kf h p e s m args below meth c R A Qc mc ms X ls H locs cells slots Y)
theorem V_icmp_lt {x y : Int32} {off : Int} {tgt : Nat} (hd : decode M.2.1 pc = .ok (.if_icmp .lt off, 3)) (ht : (pc : Int) + off = (tgt : Int)) (kt : x < y → pV Γ M tgt lo st n G bc bs Q) (kf : ¬ (x < y) → pV Γ M (pc + 3) lo st n G bc bs Q) : pV Γ M pc lo (.int y :: .int x :: st) n G bc bs Q :=
  fun p e s m args below meth c R A Qc mc ms X ls H locs cells slots Y => lv_icmp_lt X.1 X.2.1 hd ht (fun h => kt h p e s m args below meth c R A Qc mc ms X ls H locs cells slots Y) (fun h => kf h p e s m args below meth c R A Qc mc ms X ls H locs cells slots Y)
theorem V_if_lt {x : Int32} {off : Int} {tgt : Nat} (hd : decode M.2.1 pc = .ok (.ifCond .lt off, 3)) (ht : (pc : Int) + off = (tgt : Int)) (kt : x < 0 → pV Γ M tgt lo st n G bc bs Q) (kf : ¬ (x < 0) → pV Γ M (pc + 3) lo st n G bc bs Q) : pV Γ M pc lo (.int x :: st) n G bc bs Q :=
  fun p e s m args below meth c R A Qc mc ms X ls H locs cells slots Y => lv_if_lt X.1 X.2.1 hd ht (fun h => kt h p e s m args below meth c R A Qc mc ms X ls H locs cells slots Y) (fun h => kf h p e s m args below meth c R A Qc mc ms X ls H locs cells slots Y)
theorem V_icmp_ge {x y : Int32} {off : Int} {tgt : Nat} (hd : decode M.2.1 pc = .ok (.if_icmp .ge off, 3)) (ht : (pc : Int) + off = (tgt : Int)) (kt : y ≤ x → pV Γ M tgt lo st n G bc bs Q) (kf : ¬ (y ≤ x) → pV Γ M (pc + 3) lo st n G bc bs Q) : pV Γ M pc lo (.int y :: .int x :: st) n G bc bs Q :=
  fun p e s m args below meth c R A Qc mc ms X ls H locs cells slots Y => lv_icmp_ge X.1 X.2.1 hd ht (fun h => kt h p e s m args below meth c R A Qc mc ms X ls H locs cells slots Y) (fun h => kf h p e s m args below meth c R A Qc mc ms X ls H locs cells slots Y)
theorem V_if_ge {x : Int32} {off : Int} {tgt : Nat} (hd : decode M.2.1 pc = .ok (.ifCond .ge off, 3)) (ht : (pc : Int) + off = (tgt : Int)) (kt : 0 ≤ x → pV Γ M tgt lo st n G bc bs Q) (kf : ¬ (0 ≤ x) → pV Γ M (pc + 3) lo st n G bc bs Q) : pV Γ M pc lo (.int x :: st) n G bc bs Q :=
  fun p e s m args below meth c R A Qc mc ms X ls H locs cells slots Y => lv_if_ge X.1 X.2.1 hd ht (fun h => kt h p e s m args below meth c R A Qc mc ms X ls H locs cells slots Y) (fun h => kf h p e s m args below meth c R A Qc mc ms X ls H locs cells slots Y)
theorem V_icmp_gt {x y : Int32} {off : Int} {tgt : Nat} (hd : decode M.2.1 pc = .ok (.if_icmp .gt off, 3)) (ht : (pc : Int) + off = (tgt : Int)) (kt : y < x → pV Γ M tgt lo st n G bc bs Q) (kf : ¬ (y < x) → pV Γ M (pc + 3) lo st n G bc bs Q) : pV Γ M pc lo (.int y :: .int x :: st) n G bc bs Q :=
  fun p e s m args below meth c R A Qc mc ms X ls H locs cells slots Y => lv_icmp_gt X.1 X.2.1 hd ht (fun h => kt h p e s m args below meth c R A Qc mc ms X ls H locs cells slots Y) (fun h => kf h p e s m args below meth c R A Qc mc ms X ls H locs cells slots Y)
theorem V_if_gt {x : Int32} {off : Int} {tgt : Nat} (hd : decode M.2.1 pc = .ok (.ifCond .gt off, 3)) (ht : (pc : Int) + off = (tgt : Int)) (kt : 0 < x → pV Γ M tgt lo st n G bc bs Q) (kf : ¬ (0 < x) → pV Γ M (pc + 3) lo st n G bc bs Q) : pV Γ M pc lo (.int x :: st) n G bc bs Q :=
  fun p e s m args below meth c R A Qc mc ms X ls H locs cells slots Y => lv_if_gt X.1 X.2.1 hd ht (fun h => kt h p e s m args below meth c R A Qc mc ms X ls H locs cells slots Y) (fun h => kf h p e s m args below meth c R A Qc mc ms X ls H locs cells slots Y)
theorem V_icmp_le {x y : Int32} {off : Int} {tgt : Nat} (hd : decode M.2.1 pc = .ok (.if_icmp .le off, 3)) (ht : (pc : Int) + off = (tgt : Int)) (kt : x ≤ y → pV Γ M tgt lo st n G bc bs Q) (kf : ¬ (x ≤ y) → pV Γ M (pc + 3) lo st n G bc bs Q) : pV Γ M pc lo (.int y :: .int x :: st) n G bc bs Q :=
  fun p e s m args below meth c R A Qc mc ms X ls H locs cells slots Y => lv_icmp_le X.1 X.2.1 hd ht (fun h => kt h p e s m args below meth c R A Qc mc ms X ls H locs cells slots Y) (fun h => kf h p e s m args below meth c R A Qc mc ms X ls H locs cells slots Y)
theorem V_if_le {x : Int32} {off : Int} {tgt : Nat} (hd : decode M.2.1 pc = .ok (.ifCond .le off, 3)) (ht : (pc : Int) + off = (tgt : Int)) (kt : x ≤ 0 → pV Γ M tgt lo st n G bc bs Q) (kf : ¬ (x ≤ 0) → pV Γ M (pc + 3) lo st n G bc bs Q) : pV Γ M pc lo (.int x :: st) n G bc bs Q :=
  fun p e s m args below meth c R A Qc mc ms X ls H locs cells slots Y => lv_if_le X.1 X.2.1 hd ht (fun h => kt h p e s m args below meth c R A Qc mc ms X ls H locs cells slots Y) (fun h => kf h p e s m args below meth c R A Qc mc ms X ls H locs cells slots Y)
theorem V_ifnull {x : Nat} {off : Int} (hd : decode M.2.1 pc = .ok (.ifnull off, 3)) (k : pV Γ M (pc + 3) lo st n G bc bs Q) : pV Γ M pc lo (.ref x :: st) n G bc bs Q :=
  fun p e s m args below meth c R A Qc mc ms X ls H locs cells slots Y => lv_ifnull X.1 X.2.1 hd (k p e s m args below meth c R A Qc mc ms X ls H locs cells slots Y)
theorem V_ifnullN {off : Int} {tgt : Nat} (hd : decode M.2.1 pc = .ok (.ifnull off, 3)) (ht : (pc : Int) + off = (tgt : Int)) (k : pV Γ M tgt lo st n G bc bs Q) : pV Γ M pc lo (.null :: st) n G bc bs Q :=
  fun p e s m args below meth c R A Qc mc ms X ls H locs cells slots Y => lv_ifnullN X.1 X.2.1 hd ht (k p e s m args below meth c R A Qc mc ms X ls H locs cells slots Y)
theorem V_ifnonnull {x : Nat} {off : Int} {tgt : Nat} (hd : decode M.2.1 pc = .ok (.ifnonnull off, 3)) (ht : (pc : Int) + off = (tgt : Int)) (k : pV Γ M tgt lo st n G bc bs Q) : pV Γ M pc lo (.ref x :: st) n G bc bs Q :=
  fun p e s m args below meth c R A Qc mc ms X ls H locs cells slots Y => lv_ifnonnull X.1 X.2.1 hd ht (k p e s m args below meth c R A Qc mc ms X ls H locs cells slots Y)
theorem V_ifnonnullN {off : Int} (hd : decode M.2.1 pc = .ok (.ifnonnull off, 3)) (k : pV Γ M (pc + 3) lo st n G bc bs Q) : pV Γ M pc lo (.null :: st) n G bc bs Q :=
  fun p e s m args below meth c R A Qc mc ms X ls H locs cells slots Y => lv_ifnonnullN X.1 X.2.1 hd (k p e s m args below meth c R A Qc mc ms X ls H locs cells slots Y)
theorem V_tableIn {dflt l0 h0 : Int} {offs : Array Int} {len : Nat} {x : Int32} {off : Int} {tgt : Nat} (hd : decode M.2.1 pc = .ok (.tableswitch dflt l0 h0 offs, len)) (h1 : ¬ x.toInt < l0) (h2 : ¬ h0 < x.toInt) (ho : offs[(x.toInt - l0).toNat]? = some off) (ht : (pc : Int) + off = (tgt : Int)) (k : pV Γ M tgt lo st n G bc bs Q) : pV Γ M pc lo (.int x :: st) n G bc bs Q :=
  fun p e s m args below meth c R A Qc mc ms X ls H locs cells slots Y => lv_tableIn X.1 X.2.1 hd h1 h2 ho ht (k p e s m args below meth c R A Qc mc ms X ls H locs cells slots Y)
theorem V_tableOut {dflt l0 h0 : Int} {offs : Array Int} {len : Nat} {x : Int32} {tgt : Nat} (hd : decode M.2.1 pc = .ok (.tableswitch dflt l0 h0 offs, len)) (h : x.toInt < l0 ∨ h0 < x.toInt) (ht : (pc : Int) + dflt = (tgt : Int)) (k : pV Γ M tgt lo st n G bc bs Q) : pV Γ M pc lo (.int x :: st) n G bc bs Q :=
  fun p e s m args below meth c R A Qc mc ms X ls H locs cells slots Y => lv_tableOut X.1 X.2.1 hd h ht (k p e s m args below meth c R A Qc mc ms X ls H locs cells slots Y)
-- returns
theorem V_ret {v : Option Value} (hk : ∀ (p : Program) (e : Env) (s : State) (m : MethodId) (args : Array Value) (below : List Frame) (meth : Method) (c : Code) (R : Room) (A : Nat → Prop) (Qc : Array Value → State → Outcome → State → Prop) (ls : Array Slot) (H : Heap) (locs : List Loc) (cells slots : Nat), p.tables.exec = Jvm.exec → c.code = M.2.1 → meth.sig.returnType = M.2.2.2.1 → meth.locks = false → (∀ t : State, t.heap = H → s.WarmedH t.vm → Qc args s (.returned v) t) → (∀ q ∈ locs, A q.base) → W p Γ.1 e R s m args below meth c H locs cells slots (MQ below Qc args s cells slots A) (F0 m pc ls st)) (hQ : Q v n G) : pV Γ M pc lo st n G bc bs Q := by
  intro p e s m args below meth c R A Qc mc ms X ls H locs cells slots Y
  obtain ⟨x1, x2, x3, x4, x5, x6, x7, x8, x9, x10, x11, x12⟩ := X
  obtain ⟨y1, y2, y3, y4, y5, y6, y7⟩ := Y
  refine W.widen (k := mc) (n := ms) (by omega) (by omega) ?_
  exact hk p e s m args below meth c R A Qc ls H locs mc ms x1 x2 x4 x5 (fun t ht hW => x12 v n G t hQ (by rw [ht]; exact y2) (by rw [ht]; exact y3) y4 (y5.F ht)) y5.2.2
theorem V_ireturn {x : Int32} (hd : decode M.2.1 pc = .ok (.ireturn, 1)) (hr : M.2.2.2.1 = some .int) (hQ : Q (some (.int x)) n G) : pV Γ M pc lo [.int x] n G bc bs Q :=
  V_ret (fun p e s m args below meth c R A Qc ls H locs cells slots h1 h2 h3 h4 h5 h6 => W.iret h1 h2 (h3.trans hr) h5 h6 hd h4) hQ
theorem V_zreturn {x : Int32} (hd : decode M.2.1 pc = .ok (.ireturn, 1)) (hr : M.2.2.2.1 = some .boolean) (hx : x = nI 0 ∨ x = nI 1) (hQ : Q (some (.int x)) n G) : pV Γ M pc lo [.int x] n G bc bs Q :=
  V_ret (fun p e s m args below meth c R A Qc ls H locs cells slots h1 h2 h3 h4 h5 h6 => W.zret h1 h2 (h3.trans hr) (by rcases hx with rfl | rfl <;> rfl) h5 h6 hd h4) hQ
theorem V_areturn {v : Value} {cn : String} (hd : decode M.2.1 pc = .ok (.areturn, 1)) (hr : M.2.2.2.1 = some (.object cn)) (hv : v = .null ∨ ∃ a, v = .ref a) (hQ : Q (some v) n G) : pV Γ M pc lo [v] n G bc bs Q :=
  V_ret (fun p e s m args below meth c R A Qc ls H locs cells slots h1 h2 h3 h4 h5 h6 => W.aret h1 h2 (h3.trans hr) (Or.inl ⟨_, rfl⟩) hv h5 h6 hd h4) hQ
theorem V_return (hd : decode M.2.1 pc = .ok (.return_, 1)) (hr : M.2.2.2.1 = none) (hQ : Q none n G) : pV Γ M pc lo [] n G bc bs Q :=
  V_ret (fun p e s m args below meth c R A Qc ls H locs cells slots h1 h2 h3 h4 h5 h6 => W.vret h1 h2 (h3.trans hr) h5 h6 hd h4) hQ
end VROWS
