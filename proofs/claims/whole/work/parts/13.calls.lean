/-! V's rows of calls. A method's contract is V at its entry, for every post; a call goes on behind it. -/
def okM (M : pmM) (np : Nat) : Prop := Jvm.Cond.code M.1 M.2.1 M.2.2.1 M.2.2.2.1 ∈ pmWs ∧ Jvm.Cond.initialized M.1.cls ∈ pmWs ∧ plainName M.1.cls = true ∧ M.1.cls ≠ "java/lang/invoke/MethodHandle" ∧ M.1.cls ≠ "java/lang/invoke/VarHandle" ∧ (parseMethodDescriptor M.1.desc).map (fun d => d.parameters.length) = some np ∧ M.2.2.1 ≤ 21
def okL (own : String) (idx : Nat) (M : pmM) : Prop := Jvm.Cond.methodLink own idx M.1 ∈ pmWs ∨ ∃ host, Jvm.Cond.methodLinkNest own idx M.1 host ∈ pmWs
def okV (M : pmM) : Prop := Jvm.Cond.instanceMethod M.1 ∈ pmWs ∧ Jvm.Cond.selects M.1.cls M.1 M.1 ∈ pmWs
def okCV (M : pmM) (idx : Nat) (M' : pmM) (ci np : Nat) : Prop := okL M.1.cls idx M' ∧ okM M' np ∧ okV M' ∧ M'.2.2.2.2 < M.2.2.2.2 ∧ (∃ r : vw_C, pmCl[ci]? = some r ∧ r.1 = M'.1.cls) ∧ np + 1 ≤ M'.2.2.1
def okCS (M : pmM) (idx : Nat) (M' : pmM) (np : Nat) : Prop := okL M.1.cls idx M' ∧ okM M' np ∧ Jvm.Cond.static M'.1 ∈ pmWs ∧ M'.2.2.2.2 < M.2.2.2.2 ∧ np ≤ M'.2.2.1
def okCI (M : pmM) (idx : Nat) (M' : pmM) (np : Nat) : Prop := okL M.1.cls idx M' ∧ okM M' np ∧ (Jvm.Cond.instanceMethod M'.1 ∈ pmWs ∧ M'.1.name = "<init>" ∧ M'.2.2.2.1 = none) ∧ M'.2.2.2.2 < M.2.2.2.2 ∧ np + 1 ≤ M'.2.2.1
section VCALLS
variable {Γ : pmE} {M M' : pmM} {pc : Nat} {lo : pmLo} {st : List Value} {n : Nat} {G : pmG} {bc bs : Nat} {Q : pmPost}
def pmPc (Γ : pmE) (vs : List Value) (n : Nat) (G : pmG) : Array Value → State → Prop := fun v U => v = vs.toArray ∧ U.heap.size = n ∧ pmR Γ G U.heap ∧ pmK Γ U ∧ pmS Γ U U.heap ∧ G Γ.2.2.2.1 = none
def pmQc (Γ : pmE) (n : Nat) (G : pmG) (Q : pmPost) : Array Value → State → Outcome → State → Prop := fun _ st oc t => ∃ (r : Option Value) (n' : Nat) (G' : pmG), oc = .returned r ∧ Q r n' G' ∧ t.heap.size = n' ∧ pmR Γ G' t.heap ∧ (∀ a e, G' a = some e → pmA G n a) ∧ va_F (pmA G n) st t
def pmRm (M : pmM) (bc bs : Nat) : Room := { frames := M.2.2.2.2, cells := bc, slots := bs, locals := 40 * M.2.2.2.2 }
theorem pmPc.blind {vs : List Value} : FrameBlind (pmPc Γ vs n G) := fun a U g mk h => by
  obtain ⟨h1, h2, h3, h4, h5, h6⟩ := h
  exact ⟨h1, h2, h3, h4.moved (U := U.calling g mk a) (State.WarmedH.refl U), ⟨h5.1.moved (U := U.calling g mk a) (Vm.Alike.refl _), h5.2⟩, h6⟩
theorem pV.met {vs : List Value} (hp : plainName M.1.cls = true) (hv : ∀ v ∈ vs, v.category = 1) (hn : vs.length ≤ M.2.2.1) (h : pV Γ M 0 (pmIn vs M.2.2.1) [] n G bc bs Q) :
    Met Γ.1 M.1 [Jvm.Cond.code M.1 M.2.1 M.2.2.1 M.2.2.2.1] (pmRm M bc bs) (pmPc Γ vs n G) (pmQc Γ n G Q) bc bs (pmA G n) := by
  refine Met.ofW (cc := M.2.1) (maxL := M.2.2.1) (ret := M.2.2.2.1) hp rfl ?_
  intro p e s m args below meth c s₁ B hml hpc
  obtain ⟨rfl, hsz, hR, hK, hS, hb⟩ := hpc
  rw [lg_entry_eq]
  refine h p e s m _ below meth c _ (pmA G n) (pmQc Γ n G Q) bc bs ⟨B.exec, B.bytes, hml, B.returns, B.notSynchronized, (fun h => (name_of_methodNamed B.named B.method).1.trans h), findClass_of_methodNamed B.named, hK, ⟨hS, ?_⟩, ⟨Nat.le_refl _, Nat.le_refl _, Nat.le_refl _, Nat.le_refl _⟩, fun q hq => Or.inr (by rw [← hsz]; exact hq), ?_⟩ _ s.heap [] 0 0 ⟨pmL.entry hv hn, hsz, hR, fun a e he => Or.inl ⟨e, he⟩, va_S.rf, Nat.zero_add _, Nat.zero_add _⟩
  · rintro (⟨e, he⟩ | h1)
    · rw [hb] at he; cases he
    · have := hS.2
      rw [hsz] at this
      exact absurd h1 (by omega)
  · intro r n' G' t hq h1 h2 h3 h4
    exact ⟨r, n', G', rfl, hq, h1, h2, h3, h4⟩
theorem V_run {bc1 bs1 bc' bs' : Nat} {rest : List Value} {p : Program} {e : Env} {s : State} {m : MethodId} {args a : Array Value} {below : List Frame} {meth : Method} {c : Code} {R : Room} {A : Nat → Prop} {Qc : Array Value → State → Outcome → State → Prop} {mc ms : Nat} {ls : Array Slot} {H : Heap} {locs : List Loc} {cells slots : Nat}
    (X : pmX Γ M p s m args meth c R A Qc mc ms Q) (Y : pmY Γ M s A mc ms ls H locs cells slots lo n G bc bs) (hbc : bc = bc1 + bc') (hbs : bs = bs1 + bs')
    (hr : va_Run p Γ.1 e R s m args below meth c H locs cells slots bc1 bs1 (F0 m pc ls st) rest (pmQc Γ n G (fun r n' G' => pV Γ M (pc + 3) lo (pmPush r rest) n' G' bc' bs' Q) a) (pmA G n)) : W p Γ.1 e R s m args below meth c H locs cells slots (MQ below Qc args s mc ms A) (F0 m pc ls st) := by
  intro T hT X0
  obtain ⟨v, st₀, t, T', L, h0, X', hL, e1, e2, ⟨r, n', G', hv, hV, hsz, hR', hdom, hF⟩, st'⟩ := hr T hT X0
  cases hv
  obtain ⟨y1, y2, y3, y4, y5, y6, y7⟩ := Y
  have hAA : ∀ q, pmA G n q → A q := by
    rintro q (⟨e, he⟩ | hq)
    · exact y4 q e he
    · exact X.2.2.2.2.2.2.2.2.2.2.1 q (by have := y5.1; omega)
  have hF2 := hF.2
  have hF1 := hF.1
  rw [h0] at hF1 hF2
  have hS' : va_S A s.heap T'.heap (locs ++ L) := by
    refine ⟨Nat.le_trans y5.1 (by rw [e1]; exact hF1), fun q g1 g2 => ?_, fun q hq => ?_⟩
    · rw [e1, hF2 q (Nat.lt_of_lt_of_le g1 y5.1) (fun z => g2 (hAA q z))]
      exact y5.2.1 q g1 g2
    · rcases List.mem_append.mp hq with h | h
      · exact y5.2.2 q h
      · exact hAA _ (hL q h)
  obtain ⟨t2, a1, b1⟩ := hV p e s m args below meth c R A Qc mc ms X ls T'.heap (locs ++ L) (cells + bc1) (slots + bs1) ⟨y1, by rw [e1]; exact hsz, by rw [e1]; exact hR', fun a e he => hAA a (hdom a e he), hS', by omega, by omega⟩ T' rfl X'
  refine ⟨t2, st' t2 ?_, b1⟩
  rw [pmPush_eq]
  exact a1
theorem pm_pre {p : Program} {s : State} {m : MethodId} {args : Array Value} {meth : Method} {c : Code} {R : Room} {A : Nat → Prop} {Qc : Array Value → State → Outcome → State → Prop} {mc ms : Nat} {ls : Array Slot} {H : Heap} {locs : List Loc} {cells slots : Nat} (vs : List Value)
    (X : pmX Γ M p s m args meth c R A Qc mc ms Q) (Y : pmY Γ M s A mc ms ls H locs cells slots lo n G bc bs) : ∀ U : State, U.heap = H → s.WarmedH U.vm → pmPc Γ vs n G vs.toArray U := by
  intro U hU hW
  obtain ⟨x1, x2, x3, x4, x5, x6, x7, x8, ⟨⟨x9, x9b⟩, x9c⟩, x10, x11, x12⟩ := X
  obtain ⟨y1, y2, y3, y4, y5, y6, y7⟩ := Y
  refine ⟨rfl, by rw [hU]; exact y2, by rw [hU]; exact y3, x8.moved hW, ⟨(x9.kept (H1 := U.heap) (by rw [hU]; exact y5.2.1 _ x9b x9c)).moved hW.alike, by rw [hU]; exact Nat.lt_of_lt_of_le x9b y5.1⟩, ?_⟩
  cases hb : G Γ.2.2.2.1 with
  | none => rfl
  | some e => exact absurd (y4 _ e hb) x9c
theorem pm_words {s : State} {M' : pmM} (hK : pmK Γ s) (h : Jvm.Cond.code M'.1 M'.2.1 M'.2.2.1 M'.2.2.2.1 ∈ pmWs) : ∀ w ∈ [Jvm.Cond.code M'.1 M'.2.1 M'.2.2.1 M'.2.2.2.1], ∀ (a' : Array Value) (U : State), s.WarmedH U.vm → w.before a' U = true := by
  intro w hw a' U hW
  rw [List.mem_singleton.mp hw]
  exact (hK.moved hW).1 _ h a'
theorem V_callV {idx ci b bc1 bs1 bc' bs' : Nat} {fs : List Value} {As rest : List Value} {lo' : pmLo} (hd : decode M.2.1 pc = .ok (.invokevirtual idx, 3)) (hk : okCV M idx M' ci As.length)
    (hG : G b = some (.inr (ci, fs))) (hst : st = As.reverse ++ .ref b :: rest) (hrest0 : Nat.ble (rest.map fun v => v.category).sum 8 = true) (hcat0 : As.all (fun v => v.category == 1) = true) (hlo : lo' = pmIn (.ref b :: As) M'.2.2.1) (hbc : bc = bc1 + bc') (hbs : bs = bs1 + bs')
    (kk : pV Γ M' 0 lo' [] n G bc1 bs1 (fun r n' G' => pV Γ M (pc + 3) lo (pmPush r rest) n' G' bc' bs' Q)) : pV Γ M pc lo st n G bc bs Q := by
  intro p e s m args below meth c R A Qc mc ms X ls H locs cells slots Y
  have hrest := Nat.le_of_ble_eq_true hrest0
  have hcat : ∀ v ∈ As, v.category = 1 := fun v h => by simpa using List.all_eq_true.mp hcat0 v h
  obtain ⟨hl, hm, hv, hh, ⟨r, hc0, hrc⟩, hlen⟩ := hk
  subst hlo
  obtain ⟨m1, m2, m3, m4, m5, m6, m7⟩ := hm
  have hM := pV.met (vs := .ref b :: As) m3 (fun v h => (List.mem_cons.mp h).elim (fun e => by rw [e]; rfl) (hcat v)) hlen kk
  have x8 := X.2.2.2.2.2.2.2.1
  have hts : ∀ w ∈ pmWs, w.before args s = true := fun w h => x8.1 w h args
  have hpre := pm_pre (.ref b :: As) X Y
  have hrecv : ∃ cellB : Cell, H[b]? = some cellB ∧ cellB.vm.isStatics = false ∧ s.vm.findClass M'.1.cls = some cellB.cls := by
    rw [← hrc]
    exact va_recv (pm_vk x8) (pm_one Y.2.2.1 hG) hc0 (q0 := 0) rfl
  refine V_run (a := (Value.ref b :: As).toArray) (bc1 := bc1) (bs1 := bs1) (rest := rest) X Y hbc hbs ?_
  obtain ⟨x1, x2, x3, x4, x5, x6, x7, -, x9, ⟨r1, r2, r3, r4⟩, x11, x12⟩ := X
  obtain ⟨y1, y2, y3, y4, y5, y6, y7⟩ := Y
  have hlen' : ∀ sig, parseMethodDescriptor M'.1.desc = some sig → As.length = sig.parameters.length := fun sig h => by
    rw [h] at m6
    exact (Option.some.inj m6).symm
  have hfr : (pmRm M' bc1 bs1).frames + 1 ≤ R.frames := by show M'.2.2.2.2 + 1 ≤ _; omega
  have hlc : 8 + (M'.2.2.1 + 11) + (pmRm M' bc1 bs1).locals ≤ R.locals := by show _ + 40 * M'.2.2.2.2 ≤ _; omega
  rcases hl with hl | ⟨host, hl⟩
  · exact va_runV (C := M'.1.cls) (As := As) (nL := M.2.2.1) ⟨x1, x2, x3, x7, hts⟩ hM ⟨⟨rfl, rfl, hfr, hlc, pm_words x8 m1, List.mem_cons_self, hts _ m1, hts _ m2, ⟨m4, m5⟩, hlen', hts _ hl⟩, hts _ hv.1, hts _ hv.2⟩ ⟨pmPc.blind, hrecv, hpre⟩ rfl rfl (y1.size) hst (lv_room hrest) hd ⟨by omega, by omega⟩
  · exact va_runVN (C := M'.1.cls) (As := As) (nL := M.2.2.1) ⟨x1, x2, x3, x7, hts⟩ hM ⟨⟨⟨rfl, rfl, hfr, hlc, pm_words x8 m1, List.mem_cons_self⟩, hts _ m1, hts _ m2, ⟨m4, m5⟩, hlen', hts _ hl⟩, hts _ hv.1, hts _ hv.2⟩ ⟨pmPc.blind, hrecv, hpre⟩ rfl rfl (y1.size) hst (lv_room hrest) hd ⟨by omega, by omega⟩
theorem V_callS {idx bc1 bs1 bc' bs' : Nat} {As rest : List Value} {lo' : pmLo} (hd : decode M.2.1 pc = .ok (.invokestatic idx, 3)) (hk : okCS M idx M' As.length)
    (hst : st = As.reverse ++ rest) (hrest0 : Nat.ble (rest.map fun v => v.category).sum 8 = true) (hcat0 : As.all (fun v => v.category == 1) = true) (hlo : lo' = pmIn As M'.2.2.1) (hbc : bc = bc1 + bc') (hbs : bs = bs1 + bs')
    (kk : pV Γ M' 0 lo' [] n G bc1 bs1 (fun r n' G' => pV Γ M (pc + 3) lo (pmPush r rest) n' G' bc' bs' Q)) : pV Γ M pc lo st n G bc bs Q := by
  intro p e s m args below meth c R A Qc mc ms X ls H locs cells slots Y
  have hrest := Nat.le_of_ble_eq_true hrest0
  have hcat : ∀ v ∈ As, v.category = 1 := fun v h => by simpa using List.all_eq_true.mp hcat0 v h
  obtain ⟨hl, hm, hv, hh, hlen⟩ := hk
  subst hlo
  obtain ⟨m1, m2, m3, m4, m5, m6, m7⟩ := hm
  have hM := pV.met (vs := As) m3 hcat hlen kk
  have x8 := X.2.2.2.2.2.2.2.1
  have hts : ∀ w ∈ pmWs, w.before args s = true := fun w h => x8.1 w h args
  have hpre := pm_pre As X Y
  refine V_run (a := As.toArray) (bc1 := bc1) (bs1 := bs1) (rest := rest) X Y hbc hbs ?_
  obtain ⟨x1, x2, x3, x4, x5, x6, x7, -, x9, ⟨r1, r2, r3, r4⟩, x11, x12⟩ := X
  obtain ⟨y1, y2, y3, y4, y5, y6, y7⟩ := Y
  have hlen' : ∀ sig, parseMethodDescriptor M'.1.desc = some sig → As.length = sig.parameters.length := fun sig h => by
    rw [h] at m6
    exact (Option.some.inj m6).symm
  have hfr : (pmRm M' bc1 bs1).frames + 1 ≤ R.frames := by show M'.2.2.2.2 + 1 ≤ _; omega
  have hlc : 8 + (M'.2.2.1 + 11) + (pmRm M' bc1 bs1).locals ≤ R.locals := by show _ + 40 * M'.2.2.2.2 ≤ _; omega
  rcases hl with hl | ⟨host, hl⟩
  · exact va_runS (As := As) (nL := M.2.2.1) ⟨x1, x2, x3, x7, hts⟩ hM ⟨⟨rfl, rfl, hfr, hlc, pm_words x8 m1, List.mem_cons_self, hts _ m1, hts _ m2, ⟨m4, m5⟩, hlen', hts _ hl⟩, hts _ hv⟩ ⟨pmPc.blind, hpre⟩ rfl rfl (y1.size) hst (lv_room hrest) hd ⟨by omega, by omega⟩
  · exact va_runSN (As := As) (nL := M.2.2.1) ⟨x1, x2, x3, x7, hts⟩ hM ⟨⟨⟨rfl, rfl, hfr, hlc, pm_words x8 m1, List.mem_cons_self⟩, hts _ m1, hts _ m2, ⟨m4, m5⟩, hlen', hts _ hl⟩, hts _ hv, trivial⟩ ⟨pmPc.blind, hpre⟩ rfl rfl (y1.size) hst (lv_room hrest) hd ⟨by omega, by omega⟩
theorem V_callI {idx b bc1 bs1 bc' bs' : Nat} {As rest : List Value} {lo' : pmLo} (hd : decode M.2.1 pc = .ok (.invokespecial idx, 3)) (hk : okCI M idx M' As.length)
    (hst : st = As.reverse ++ .ref b :: rest) (hrest0 : Nat.ble (rest.map fun v => v.category).sum 8 = true) (hcat0 : As.all (fun v => v.category == 1) = true) (hlo : lo' = pmIn (.ref b :: As) M'.2.2.1) (hbc : bc = bc1 + bc') (hbs : bs = bs1 + bs')
    (kk : pV Γ M' 0 lo' [] n G bc1 bs1 (fun r n' G' => pV Γ M (pc + 3) lo (pmPush r rest) n' G' bc' bs' Q)) : pV Γ M pc lo st n G bc bs Q := by
  intro p e s m args below meth c R A Qc mc ms X ls H locs cells slots Y
  have hrest := Nat.le_of_ble_eq_true hrest0
  have hcat : ∀ v ∈ As, v.category = 1 := fun v h => by simpa using List.all_eq_true.mp hcat0 v h
  obtain ⟨hl, hm, ⟨hv, hi, hnone⟩, hh, hlen⟩ := hk
  subst hlo
  obtain ⟨m1, m2, m3, m4, m5, m6, m7⟩ := hm
  have hM := pV.met (vs := .ref b :: As) m3 (fun v h => (List.mem_cons.mp h).elim (fun e => by rw [e]; rfl) (hcat v)) hlen kk
  have x8 := X.2.2.2.2.2.2.2.1
  have hts : ∀ w ∈ pmWs, w.before args s = true := fun w h => x8.1 w h args
  have hpre := pm_pre (.ref b :: As) X Y
  refine V_run (a := (Value.ref b :: As).toArray) (bc1 := bc1) (bs1 := bs1) (rest := rest) X Y hbc hbs ?_
  obtain ⟨x1, x2, x3, x4, x5, x6, x7, -, x9, ⟨r1, r2, r3, r4⟩, x11, x12⟩ := X
  obtain ⟨y1, y2, y3, y4, y5, y6, y7⟩ := Y
  have hlen' : ∀ sig, parseMethodDescriptor M'.1.desc = some sig → As.length = sig.parameters.length := fun sig h => by
    rw [h] at m6
    exact (Option.some.inj m6).symm
  have hfr : (pmRm M' bc1 bs1).frames + 1 ≤ R.frames := by show M'.2.2.2.2 + 1 ≤ _; omega
  have hlc : 8 + (M'.2.2.1 + 11) + (pmRm M' bc1 bs1).locals ≤ R.locals := by show _ + 40 * M'.2.2.2.2 ≤ _; omega
  have hws := pm_words x8 m1
  have hmem : Jvm.Cond.code M'.1 M'.2.1 M'.2.2.1 none ∈ [Jvm.Cond.code M'.1 M'.2.1 M'.2.2.1 M'.2.2.2.1] := by rw [hnone]; exact List.mem_cons_self
  have hcode : (Jvm.Cond.code M'.1 M'.2.1 M'.2.2.1 none).before args s = true := by rw [← hnone]; exact hts _ m1
  rcases hl with hl | ⟨host, hl⟩
  · exact va_runI (As := As) (nL := M.2.2.1) ⟨x1, x2, x3, x7, hts⟩ hM ⟨⟨rfl, rfl, hfr, hlc, hws, hmem, hcode, hts _ m2, ⟨m4, m5⟩, hlen', hts _ hl⟩, hi, hts _ hv⟩ ⟨pmPc.blind, hpre⟩ rfl rfl (y1.size) hst (lv_room hrest) hd ⟨by omega, by omega⟩
  · exact va_runIN (As := As) (nL := M.2.2.1) ⟨x1, x2, x3, x7, hts⟩ hM ⟨⟨⟨rfl, rfl, hfr, hlc, hws, hmem⟩, hcode, hts _ m2, ⟨m4, m5⟩, hlen', hts _ hl⟩, hi, hts _ hv⟩ ⟨pmPc.blind, hpre⟩ rfl rfl (y1.size) hst (lv_room hrest) hd ⟨by omega, by omega⟩
theorem V_objInit {idx a : Nat} (hd : decode M.2.1 pc = .ok (.invokespecial idx, 3)) (hl : Jvm.Cond.methodLink M.1.cls idx Lib.objectInit ∈ pmWs) (hi : Jvm.Cond.instanceMethod Lib.objectInit ∈ pmWs) (hc : Jvm.Cond.code Lib.objectInit ⟨#[0xb1]⟩ 1 none ∈ pmWs) (hh : 1 ≤ M.2.2.2.2) (hrest0 : Nat.ble (st.map fun v => v.category).sum 8 = true) (kk : pV Γ M (pc + 3) lo st n G bc bs Q) : pV Γ M pc lo (.ref a :: st) n G bc bs Q := by
  have hrest := Nat.le_of_ble_eq_true hrest0
  intro p e s m args below meth c R A Qc mc ms X ls H locs cells slots Y
  have hW := kk p e s m args below meth c R A Qc mc ms X ls H locs cells slots Y
  obtain ⟨x1, x2, x3, x4, x5, x6, x7, x8, x9, ⟨r1, r2, r3, r4⟩, x11, x12⟩ := X
  have hts : ∀ w ∈ pmWs, w.before args s = true := fun w h => x8.1 w h args
  have hroom := lv_room (m := m) (pc := pc) (ls := ls) (rest := Value.ref a :: st) hrest
  exact W.objInit x1 x2 x7 (hts _ hl) (hts _ hi) (hts _ hc) rfl (by rw [x3]; exact Y.1.size) rfl hd (by omega) (by omega) hW
theorem V_copyi {idx a b N N' d k : Nat} {f g : Nat → Int32} {xs xd xn : Int32} (hd : decode M.2.1 pc = .ok (.invokestatic idx, 3)) (hl : Jvm.Cond.methodLink M.1.cls idx arraycopyName ∈ pmWs) (hnat : Jvm.Cond.native arraycopyName ∈ pmWs) (hstat : Jvm.Cond.static arraycopyName ∈ pmWs) (hini : Jvm.Cond.initialized "java/lang/System" ∈ pmWs) (hty : pmTy 0 = some .int) (hh : 1 ≤ M.2.2.2.2) (hrest0 : Nat.ble (st.map fun v => v.category).sum 8 = true)
    (hA0 : G a = some (.inl (0, N, .inl f))) (hA1 : G b = some (.inl (0, N', .inl g))) (hs : xs = nI d) (hdd : xd = nI 0) (hn : xn = nI k) (h4 : d + k ≤ N) (h5 : k ≤ N') (hN : N < 2 ^ 31) (hN' : N' < 2 ^ 31)
    (kk : ∀ G' : pmG, G' b = some (.inl (0, N', .inl (va_cpy f g d 0 k))) → (∀ q, q ≠ b → G' q = G q) → pV Γ M (pc + 3) lo st n G' bc bs Q) : pV Γ M pc lo (.int xn :: .int xd :: .ref b :: .int xs :: .ref a :: st) n G bc bs Q := by
  have hrest := Nat.le_of_ble_eq_true hrest0
  intro p e s m args below meth c R A Qc mc ms X ls H locs cells slots Y
  have hW := kk _ (pmSet_self _ _ _) (fun q h => pmSet_ne _ _ h) p e s m args below meth c R A Qc mc ms X
  obtain ⟨x1, x2, x3, x4, x5, x6, x7, x8, x9, ⟨r1, r2, r3, r4⟩, x11, x12⟩ := X
  obtain ⟨y1, y2, y3, y4, y5, y6, y7⟩ := Y
  subst hs; subst hdd; subst hn
  have hts : ∀ w ∈ pmWs, w.before args s = true := fun w h => x8.1 w h args
  have e_d : (nI d).toNatClampNeg = d := nI_clamp (by omega)
  have e_0 : (nI 0).toNatClampNeg = 0 := nI_clamp (by omega)
  have e_k : (nI k).toNatClampNeg = k := nI_clamp (by omega)
  have hroom := lv_room (m := m) (pc := pc) (ls := ls) (rest := st) hrest
  have hArr := (x8.2.2 0 _ hty).1
  have hc0 : H[a]? = some (vp_cell (Γ.2.2.1 0) (N, .inl f)) := y3 a _ hA0
  have hc1 : H[b]? = some (vp_cell (Γ.2.2.1 0) (N', .inl g)) := y3 b _ hA1
  intro T hT X0
  obtain ⟨-, k0, hk0, cm0, hkk0⟩ := hArr N (fun j => .int (f j))
  obtain ⟨-, k1, hk1, cm1, hkk1⟩ := hArr N' (fun j => .int (g j))
  obtain ⟨vm', X', step⟩ := X0.arraycopy x1 x7 (hts _ hl) (hts _ hnat) (hts _ hstat) (hts _ hini) (src := a) (dst := b) (cs := vp_cell (Γ.2.2.1 0) (N, .inl f)) (cd := vp_cell (Γ.2.2.1 0) (N', .inl g)) (srcPos := nI d) (destPos := nI 0) (n := nI k) (by rw [hT]; exact hc0) (by rw [hT]; exact hc1)
    (fun _ h => by cases h) (fun _ h => by cases h) (fun h => by cases h) (fun h => by cases h) hk0 hk1 hkk0 hkk1 (by simp [refKind]) (nI_pos (by omega)) (nI_pos (by omega)) (nI_pos (by omega))
    (by rw [nI_toInt (by omega), nI_toInt (by omega)]; show ¬ _ > ((arrV _ N (fun j => .int (f j))).slots.size : Int); rw [arrV_size]; omega)
    (by rw [nI_toInt (by omega), nI_toInt (by omega)]; show ¬ _ > ((arrV _ N' (fun j => .int (g j))).slots.size : Int); rw [arrV_size]; omega)
    (fun vm₁ _ i hi => by
      rw [e_k] at hi
      have e : (vp_cell (Γ.2.2.1 0) (N, .inl f)).slots.getD ((nI d).toNatClampNeg + i) .null = .int (f (d + i)) := by
        show (arrV _ N (fun j => .int (f j))).slots.getD _ _ = _
        rw [e_d, Array.getD_eq_getD_getElem?, arrV_read _ _ (by omega)]
        rfl
      refine ⟨?_, ?_⟩
      · rw [e]; rfl
      · rw [e]; exact trivial)
    (g := F0 m pc ls (.int (nI k) :: .int (nI 0) :: .ref b :: .int (nI d) :: .ref a :: st)) rfl (by rw [x3]; exact y1.size) (rest := st) rfl (by rw [x2]; exact hd) (by omega) (by show 2 * 0 + _ + _ ≤ _; have : nativeFrameWords "java/lang/System" "arraycopy" 5 + 11 ≤ 32 := (by decide +kernel); omega)
  have e1 : copied (vp_cell (Γ.2.2.1 0) (N, .inl f)) (vp_cell (Γ.2.2.1 0) (N', .inl g)) (nI d) (nI 0) (nI k) = vp_cell (Γ.2.2.1 0) (N', .inl (va_cpy f g (nI d).toNatClampNeg (nI 0).toNatClampNeg (nI k).toNatClampNeg)) :=
    va_copied (fun z => Value.int z) (Γ.2.2.1 0) (Γ.2.2.1 0) f g (by rw [e_d, e_k]; exact h4)
  rw [e_d, e_0, e_k] at e1
  rw [e1] at X' step
  have hl : b < H.size := (Array.getElem?_eq_some_iff.mp hc1).1
  generalize hcell : vp_cell (Γ.2.2.1 0) (N', .inl (va_cpy f g d 0 k)) = cellN at X' step
  have hheap : ((T.setVm vm').setCell b cellN).heap = H.setIfInBounds b cellN := by rw [← hT]; rfl
  have oq : ∀ q : Nat, q ≠ b → (H.setIfInBounds b cellN)[q]? = H[q]? := fun q hq => by simp [Array.getElem?_setIfInBounds, Ne.symm hq]
  have hAb := y4 b _ hA1
  obtain ⟨t, a1, b1⟩ := hW ls (H.setIfInBounds b cellN) _ cells slots ⟨y1, by simp; exact y2, y3.set (show (H.setIfInBounds b cellN)[b]? = some (vp_cell _ _) by rw [← hcell]; simp [Array.getElem?_setIfInBounds, hl]) oq, pmSet_dom y4 hAb, ⟨by simp; exact y5.1, fun q g1 g2 => by
      rw [oq q (fun e => g2 (by rw [e]; exact hAb))]
      exact y5.2.1 q g1 g2, fun q hq => by
      rcases List.mem_append.mp hq with h | h
      · exact y5.2.2 q h
      · obtain ⟨z, -, hz⟩ := List.mem_map.mp h
        rw [← hz]
        exact hAb⟩, y6, y7⟩ _ hheap X'
  exact ⟨t, step t a1, b1⟩
end VCALLS
