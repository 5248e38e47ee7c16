/-! The start: what the tables say, and the law's body out of the judgement. -/
theorem pm_any {w : Jvm.Cond} {A : Array Value} {s : State} (h : pmMv w = true) (hs : w.before A s = true) : ∀ a : Array Value, w.before a s = true := by
  unfold pmMv at h
  split at h
  · exact fun a => va_tabs rfl rfl hs
  · exact fun a => va_tabs rfl rfl hs
  · exact fun a => va_AO.use (va_AO.of hs)
  · exact fun a => word_at (State.WarmedH.refl s) (good_of_word h) hs
theorem pm_int {A : Array Value} {s : State} (h : (Cond.arrayClass .int).before A s = true) : ∃ cA, ArrOfT s cA .int ∧ va_RA s cA .int := by
  obtain ⟨c, k, comp, h1, h2, h3⟩ := Cond.arrayClass_spec h
  exact ⟨c, fun n z => ⟨(fun k h => by cases h), k, h2, comp, h3⟩, h1⟩
theorem pm_bool {A : Array Value} {s : State} (h : (Cond.arrayClass .boolean).before A s = true) : ∃ cA, ArrOfT s cA .boolean ∧ va_RA s cA .boolean := by
  obtain ⟨c, k, comp, h1, h2, h3⟩ := Cond.arrayClass_spec h
  exact ⟨c, fun n z => ⟨(fun k h => by cases h), k, h2, comp, h3⟩, h1⟩
theorem pm_obj {C : String} {A : Array Value} {s : State} (h : (Cond.arrayOver (.object C)).before A s = true) : ∃ cA, ArrOfT s cA (.object C) ∧ va_RA s cA (.object C) := by
  obtain ⟨comp, c, k, h1, h2, h3, h4, h5⟩ := Cond.arrayOver_spec h
  exact ⟨c, fun n z => ⟨(fun k h => by cases h), k, h3, comp, h4⟩, k, comp, h3, h4, h1, h5⟩
theorem pm_arrs {A : Array Value} {s : State} (hts : ∀ w ∈ pmWs, w.before A s = true) : ∃ aK : Nat → ClassId, ∀ (k : Nat) (ty : FieldType), pmTy k = some ty → ArrOfT s (aK k) ty ∧ va_RA s (aK k) ty := by
  obtain ⟨a0, h0⟩ := pm_int (hts _ w_51)
  obtain ⟨a1, h1⟩ := pm_bool (hts _ w_652)
  obtain ⟨a10, h10⟩ := pm_obj (hts _ w_30)
  obtain ⟨a9, h9⟩ := pm_obj (hts _ w_112)
  obtain ⟨a12, h12⟩ := pm_obj (hts _ w_124)
  obtain ⟨a13, h13⟩ := pm_obj (hts _ w_156)
  obtain ⟨a4, h4⟩ := pm_obj (hts _ w_183)
  obtain ⟨a8, h8⟩ := pm_obj (hts _ w_190)
  refine ⟨fun k => if k = 0 then a0 else if k = 1 then a1 else if k = 10 then a10 else if k = 9 then a9 else if k = 12 then a12 else if k = 13 then a13 else if k = 4 then a4 else a8, fun k ty hk => ?_⟩
  unfold pmTy at hk
  split at hk
  · cases hk; exact h0
  · cases hk; exact h1
  · cases hk; exact h10
  · cases hk; exact h9
  · cases hk; exact h12
  · cases hk; exact h13
  · cases hk; exact h4
  · cases hk; exact h8
  · cases hk
theorem pm_cls {A : Array Value} {s : State} (hts : ∀ w ∈ pmWs, w.before A s = true) : ∃ D : va_G, ∀ (c : Nat) (q : vw_C), pmCl[c]? = some q → u_Kn s q.1 q.2.1 q.2.2 (D.1 c) (D.2 c) := by
  obtain ⟨c0, i0, k0⟩ := u_known hts in_HE (hts _ w_16)
  obtain ⟨c1, i1, k1⟩ := u_known hts in_Mo (hts _ w_581)
  obtain ⟨c2, i2, k2⟩ := u_known hts in_Cl (hts _ w_184)
  obtain ⟨c3, i3, k3⟩ := u_known hts in_Ch (hts _ w_118)
  obtain ⟨c4, i4, k4⟩ := u_known hts in_Cd (hts _ w_37)
  obtain ⟨c5, i5, k5⟩ := u_known hts in_Df (hts _ w_24)
  obtain ⟨c6, i6, k6⟩ := u_known hts in_Fr (hts _ w_191)
  obtain ⟨c7, i7, k7⟩ := u_known hts in_Lc (hts _ w_422)
  obtain ⟨c8, i8, k8⟩ := u_known hts in_Mt (hts _ w_31)
  obtain ⟨c9, i9, k9⟩ := u_known hts in_Sh (hts _ w_106)
  obtain ⟨c10, i10, k10⟩ := u_known hts in_Tf (hts _ w_125)
  obtain ⟨c11, i11, k11⟩ := u_known hts in_Tr (hts _ w_157)
  refine ⟨(fun c => if c = 0 then c0 else if c = 1 then c1 else if c = 2 then c2 else if c = 3 then c3 else if c = 4 then c4 else if c = 5 then c5 else if c = 6 then c6 else if c = 7 then c7 else if c = 8 then c8 else if c = 9 then c9 else if c = 10 then c10 else c11, fun c => if c = 0 then i0 else if c = 1 then i1 else if c = 2 then i2 else if c = 3 then i3 else if c = 4 then i4 else if c = 5 then i5 else if c = 6 then i6 else if c = 7 then i7 else if c = 8 then i8 else if c = 9 then i9 else if c = 10 then i10 else i11), fun c q hq => ?_⟩
  have hlt : c < 12 := (List.getElem?_eq_some_iff.mp hq).1
  have hcs : c = 0 ∨ c = 1 ∨ c = 2 ∨ c = 3 ∨ c = 4 ∨ c = 5 ∨ c = 6 ∨ c = 7 ∨ c = 8 ∨ c = 9 ∨ c = 10 ∨ c = 11 := by omega
  rcases hcs with rfl | rfl | rfl | rfl | rfl | rfl | rfl | rfl | rfl | rfl | rfl | rfl
  · cases hq; exact k0
  · cases hq; exact k1
  · cases hq; exact k2
  · cases hq; exact k3
  · cases hq; exact k4
  · cases hq; exact k5
  · cases hq; exact k6
  · cases hq; exact k7
  · cases hq; exact k8
  · cases hq; exact k9
  · cases hq; exact k10
  · cases hq; exact k11
