/-! The world as a partial heap (pm) and the judgement V: from a place of a method the method returns with a post over answers and worlds. Every row of the machine is used once here. -/
abbrev pmC : Type := (Nat × vp_A) ⊕ (Nat × List Value)
abbrev pmG : Type := Nat → Option pmC
abbrev pmE : Type := Launch × va_G × (Nat → ClassId) × Nat × Nat × (Nat → Int32)
abbrev pmLo : Type := List (Option Value)
abbrev pmPost : Type := Option Value → Nat → pmG → Prop
def pmSet (G : pmG) (a : Nat) (c : pmC) : pmG := fun b => if b = a then some c else G b
theorem pmSet_self (G : pmG) (a : Nat) (c : pmC) : pmSet G a c a = some c := if_pos rfl
theorem pmSet_ne (G : pmG) {a b : Nat} (c : pmC) (h : b ≠ a) : pmSet G a c b = G b := if_neg h
def pmT (aK : Nat → ClassId) (e : pmC) : va_E := match e with
  | .inl x => .inl (aK x.1, x.2)
  | .inr o => .inr o
def pmPush (r : Option Value) (st : List Value) : List Value := match r with
  | none => st
  | some v => v :: st
theorem pmPush_eq (r : Option Value) (st : List Value) : r.toList ++ st = pmPush r st := by cases r <;> rfl
def pmIn (vs : List Value) (n : Nat) : pmLo := vs.map some ++ List.replicate (n - vs.length) none
-- the heap holds what G says
def pmR (Γ : pmE) (G : pmG) (H : Heap) : Prop := ∀ (a : Nat) (e : pmC), G a = some e → va_at Γ.2.1 pmCl (a, pmT Γ.2.2.1 e) H
-- what the tables say
def pmK (Γ : pmE) (U : State) : Prop := (∀ w ∈ pmWs, ∀ a : Array Value, w.before a U = true) ∧ (∀ (c : Nat) (q : vw_C), pmCl[c]? = some q → u_Kn U q.1 q.2.1 q.2.2 (Γ.2.1.1 c) (Γ.2.1.2 c)) ∧ ∀ (k : Nat) (ty : FieldType), pmTy k = some ty → ArrOfT U (Γ.2.2.1 k) ty ∧ va_RA U (Γ.2.2.1 k) ty
def pmS (Γ : pmE) (U : State) (H : Heap) : Prop := va_X Γ.2.2.2.1 Γ.2.2.2.2.1 Γ.2.2.2.2.2 U H ∧ Γ.2.2.2.1 < H.size
def pmA (G : pmG) (n : Nat) : Nat → Prop := fun q => (∃ e, G q = some e) ∨ n ≤ q
theorem pmMv_moved {w : Jvm.Cond} {s U : State} (h : pmMv w = true) (hW : s.WarmedH U.vm) (hs : ∀ a : Array Value, w.before a s = true) : ∀ a : Array Value, w.before a U = true := by
  unfold pmMv at h
  split at h
  · exact fun a => va_Nw.use rfl (va_Nw.warmF hW (hs #[]))
  · exact fun a => va_Nw.use rfl (va_Nw.warmM hW (hs #[]))
  · exact fun a => va_AO.use (va_AO.moved hW.alike (va_AO.of (hs #[])))
  · exact fun a => word_at hW (good_of_word h) (hs #[])
theorem pmK.moved {Γ : pmE} {s U : State} (hW : s.WarmedH U.vm) (h : pmK Γ s) : pmK Γ U :=
  ⟨fun w hw => pmMv_moved (pmWs_ok w hw) hW (h.1 w hw), fun c q hq => u_Kn_moved hW.alike (h.2.1 c q hq), fun k ty hk => ⟨arrOfT_moved hW.alike (h.2.2 k ty hk).1, (h.2.2 k ty hk).2.moved hW.alike⟩⟩
-- the locals
def pmL (ls : Array Slot) (nL : Nat) (lo : pmLo) : Prop := ∃ lv : List (Nat × Value), lv_has ls nL lv ∧ lo.length = nL ∧ ∀ (i : Nat) (v : Value), lo[i]? = some (some v) → (i, v) ∈ lv ∧ v.category = 1
theorem pmL.get {ls : Array Slot} {nL : Nat} {lo : pmLo} (h : pmL ls nL lo) {i : Nat} {v : Value} (hi : lo[i]? = some (some v)) : ls[i]? = some (.val v) := by
  obtain ⟨lv, h1, h2, h3⟩ := h
  exact h1.2.2 (i, v) (h3 i v hi).1
theorem pmL.size {ls : Array Slot} {nL : Nat} {lo : pmLo} (h : pmL ls nL lo) : ls.size = nL := by
  obtain ⟨lv, h1, h2, h3⟩ := h
  exact h1.1
theorem pmL.set {ls' : Array Slot} {nL : Nat} {lo : pmLo} {lv : List (Nat × Value)} {i : Nat} {v : Value} (h2 : lo.length = nL) (h3 : ∀ (i : Nat) (v : Value), lo[i]? = some (some v) → (i, v) ∈ lv ∧ v.category = 1) (hv : v.category = 1)
    (h' : lv_has ls' nL ((i, v) :: lv.filter (fun q => !(q.1 == i) && !(q.1 + 1 == i && q.2.category == 2)))) : pmL ls' nL (lo.set i (some v)) := by
  refine ⟨_, h', by simp [h2], fun j u hj => ?_⟩
  rw [List.getElem?_set] at hj
  split at hj
  · rename_i hij
    split at hj
    · cases hj
      subst hij
      exact ⟨List.mem_cons_self, hv⟩
    · cases hj
  · rename_i hij
    obtain ⟨g1, g2⟩ := h3 j u hj
    refine ⟨List.mem_cons_of_mem _ (List.mem_filter.mpr ⟨g1, ?_⟩), g2⟩
    have hne : (j == i) = false := by simpa using fun h : j = i => hij h.symm
    simp [hne, g2]
theorem pm_args {vs : List Value} (hv : ∀ v ∈ vs, v.category = 1) : ∀ (b i : Nat) (v : Value), vs[i]? = some v → (b + i, v) ∈ lv_args b vs := by
  induction vs with
  | nil => intro b i v h; simp at h
  | cons u us ih =>
    intro b i v h
    have hu : u.category = 1 := hv u List.mem_cons_self
    have e : lv_args b (u :: us) = (b, u) :: lv_args (b + 1) us := by
      rw [lv_args, if_neg (by rw [hu]; decide)]
    rw [e]
    cases i with
    | zero => simp at h; subst h; exact List.mem_cons_self
    | succ i =>
      have h2 := ih (fun v hv' => hv v (List.mem_cons_of_mem _ hv')) (b + 1) i v (by simpa using h)
      rw [show b + 1 + i = b + (i + 1) by omega] at h2
      exact List.mem_cons_of_mem _ h2
theorem pm_sl {vs : List Value} (hv : ∀ v ∈ vs, v.category = 1) : (lg_sl vs).length = vs.length := by
  induction vs with
  | nil => rfl
  | cons u us ih =>
    have hu : u.category = 1 := hv u List.mem_cons_self
    have := ih (fun v hv' => hv v (List.mem_cons_of_mem _ hv'))
    simp only [lg_sl, List.flatMap_cons, List.length_append, List.length_cons] at this ⊢
    rw [this, if_neg (by rw [hu]; decide)]
    simp
    omega
theorem pmL.entry {vs : List Value} {n : Nat} (hv : ∀ v ∈ vs, v.category = 1) (hn : vs.length ≤ n) : pmL ((lg_sl vs ++ List.replicate (n - (lg_sl vs).length) Slot.unset).toArray) n (pmIn vs n) := by
  refine ⟨_, lv_entry vs (by rw [pm_sl hv]; exact hn), by simp [pmIn]; omega, fun i v h => ?_⟩
  unfold pmIn at h
  by_cases hi : i < vs.length
  · rw [List.getElem?_append_left (by simpa using hi)] at h
    simp at h
    have h1 := pm_args hv 0 i v (by simpa using h)
    rw [Nat.zero_add] at h1
    exact ⟨h1, hv v (List.mem_of_getElem? h)⟩
  · rw [List.getElem?_append_right (by simpa using Nat.le_of_not_lt hi)] at h
    rw [List.getElem?_replicate] at h
    split at h <;> cases h
-- the fixed part of a place, its moving part, the judgement
def pmX (Γ : pmE) (M : pmM) (p : Program) (s : State) (m : MethodId) (args : Array Value) (meth : Method) (c : Code) (R : Room) (A : Nat → Prop) (Qc : Array Value → State → Outcome → State → Prop) (mc ms : Nat) (Q : pmPost) : Prop :=
  p.tables.exec = Jvm.exec ∧ c.code = M.2.1 ∧ c.maxLocals = M.2.2.1 ∧ meth.sig.returnType = M.2.2.2.1 ∧ meth.locks = false ∧ (M.1.name = "<init>" → meth.name = "<init>") ∧ s.vm.findClass M.1.cls = some m.cls ∧ pmK Γ s ∧ (pmS Γ s s.heap ∧ ¬ A Γ.2.2.2.1) ∧
  (M.2.2.2.2 ≤ R.frames ∧ 40 * M.2.2.2.2 ≤ R.locals ∧ mc ≤ R.cells ∧ ms ≤ R.slots) ∧ (∀ q, s.heap.size ≤ q → A q) ∧
  ∀ (r : Option Value) (n' : Nat) (G' : pmG) (t : State), Q r n' G' → t.heap.size = n' → pmR Γ G' t.heap → (∀ a e, G' a = some e → A a) → va_F A s t → Qc args s (.returned r) t
def pmY (Γ : pmE) (M : pmM) (s : State) (A : Nat → Prop) (mc ms : Nat) (ls : Array Slot) (H : Heap) (locs : List Loc) (cells slots : Nat) (lo : pmLo) (n : Nat) (G : pmG) (bc bs : Nat) : Prop :=
  pmL ls M.2.2.1 lo ∧ H.size = n ∧ pmR Γ G H ∧ (∀ a e, G a = some e → A a) ∧ va_S A s.heap H locs ∧ cells + bc = mc ∧ slots + bs = ms
def pV (Γ : pmE) (M : pmM) (pc : Nat) (lo : pmLo) (st : List Value) (n : Nat) (G : pmG) (bc bs : Nat) (Q : pmPost) : Prop :=
  ∀ (p : Program) (e : Env) (s : State) (m : MethodId) (args : Array Value) (below : List Frame) (meth : Method) (c : Code) (R : Room) (A : Nat → Prop) (Qc : Array Value → State → Outcome → State → Prop) (mc ms : Nat), pmX Γ M p s m args meth c R A Qc mc ms Q →
    ∀ (ls : Array Slot) (H : Heap) (locs : List Loc) (cells slots : Nat), pmY Γ M s A mc ms ls H locs cells slots lo n G bc bs → W p Γ.1 e R s m args below meth c H locs cells slots (MQ below Qc args s mc ms A) (F0 m pc ls st)
theorem pmR.set {Γ : pmE} {G : pmG} {H H' : Heap} {a : Nat} {e : pmC} (h : pmR Γ G H) (he : va_at Γ.2.1 pmCl (a, pmT Γ.2.2.1 e) H') (oq : ∀ q : Nat, q ≠ a → H'[q]? = H[q]?) : pmR Γ (pmSet G a e) H' := by
  intro b x hb
  by_cases hba : b = a
  · subst hba
    rw [pmSet_self] at hb
    cases hb
    exact he
  · rw [pmSet_ne _ _ hba] at hb
    exact (h b x hb).kept (oq b hba)
theorem pmR.push {Γ : pmE} {G : pmG} {H H' : Heap} {a : Nat} {e : pmC} (h : pmR Γ G H) (ha : H.size = a) (he : va_at Γ.2.1 pmCl (a, pmT Γ.2.2.1 e) H') (oq : ∀ q : Nat, q < a → H'[q]? = H[q]?) : pmR Γ (pmSet G a e) H' := by
  intro b x hb
  by_cases hba : b = a
  · subst hba
    rw [pmSet_self] at hb
    cases hb
    exact he
  · rw [pmSet_ne _ _ hba] at hb
    have h1 := h b x hb
    have h2 : b < H.size := h1.lt
    exact h1.kept (oq b (by omega))
theorem pmSet_dom {G : pmG} {a : Nat} {c : pmC} {A : Nat → Prop} (h : ∀ a e, G a = some e → A a) (ha : A a) : ∀ b e, pmSet G a c b = some e → A b := by
  intro b e hb
  by_cases hba : b = a
  · subst hba; exact ha
  · rw [pmSet_ne _ _ hba] at hb
    exact h b e hb
theorem pV.post {Γ : pmE} {M : pmM} {pc : Nat} {lo : pmLo} {st : List Value} {n : Nat} {G : pmG} {bc bs : Nat} {Q Q' : pmPost} (h : pV Γ M pc lo st n G bc bs Q') (hQ : ∀ r n' G', Q' r n' G' → Q r n' G') : pV Γ M pc lo st n G bc bs Q := by
  intro p e s m args below meth c R A Qc mc ms X
  obtain ⟨x1, x2, x3, x4, x5, x6, x7, x8, x9, x10, x11, x12⟩ := X
  exact h p e s m args below meth c R A Qc mc ms ⟨x1, x2, x3, x4, x5, x6, x7, x8, x9, x10, x11, fun r n' G' t hq => x12 r n' G' t (hQ r n' G' hq)⟩
