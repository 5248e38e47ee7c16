/-! V's rows of fields, arrays, new objects. -/
def okF (own : String) (idx ci k : Nat) : Prop := ∃ (C : String) (T : u_T) (N : Nat), pmCl[ci]? = some (C, T, N) ∧ k < N ∧ (T k).1 = C ∧ (∀ w ∈ u_ws C T N, w ∈ pmWs) ∧
  (Jvm.Cond.fieldLink own idx C (T k).2.1 (T k).2.2.1 ∈ pmWs ∨ ∃ host, Jvm.Cond.fieldLinkNest own idx C (T k).2.1 (T k).2.2.1 host ∈ pmWs)
def okP (ci k : Nat) (fin : Bool) (ty : FieldType) : Prop := ∃ (C : String) (T : u_T) (N : Nat) (ty0 : Nat → FieldType), pmCl[ci]? = some (C, T, N) ∧ k < N ∧ (∀ j, j < N → parseFieldDescriptor (T j).2.2.1 = some (ty0 j)) ∧ (∀ a, a < N → ∀ b, b < N → a ≠ b → (T a).2.1 ≠ (T b).2.1) ∧ (T k).2.2.2 = fin ∧ ty0 k = ty
def okN (own : String) (idx ci N : Nat) (fs : List Value) : Prop := ∃ (C : String) (T : u_T) (ty0 : Nat → FieldType), pmCl[ci]? = some (C, T, N) ∧ (∀ w ∈ u_ws C T N, w ∈ pmWs) ∧ (∀ j, j < N → parseFieldDescriptor (T j).2.2.1 = some (ty0 j)) ∧ Jvm.Cond.classLink own idx C ∈ pmWs ∧ Jvm.Cond.instantiable C N ∈ pmWs ∧ Jvm.Cond.initialized C ∈ pmWs ∧ ∀ j, j < N → defaultValue (ty0 j) = vp_V fs j
def okPF (own : String) (idx ci k : Nat) (ty : FieldType) : Prop := ∃ (C : String) (T : u_T) (N : Nat) (ty0 : Nat → FieldType), pmCl[ci]? = some (C, T, N) ∧ k < N ∧ (T k).1 = C ∧ C = own ∧ (∀ w ∈ u_ws C T N, w ∈ pmWs) ∧ Jvm.Cond.fieldLink own idx C (T k).2.1 (T k).2.2.1 ∈ pmWs ∧
  (∀ j, j < N → parseFieldDescriptor (T j).2.2.1 = some (ty0 j)) ∧ (∀ a, a < N → ∀ b, b < N → a ≠ b → (T a).2.1 ≠ (T b).2.1) ∧ (T k).2.2.2 = true ∧ ty0 k = ty
section VHEAP
variable {Γ : pmE} {M : pmM} {pc : Nat} {lo : pmLo} {st : List Value} {n : Nat} {G : pmG} {bc bs : Nat} {Q : pmPost}
theorem pm_one {Γ : pmE} {G : pmG} {H : Heap} (h : pmR Γ G H) {a : Nat} {e : pmC} (ha : G a = some e) : va_P Γ.2.1 pmCl [(a, pmT Γ.2.2.1 e)] H := by
  intro k q hk
  cases k with
  | zero => simp at hk; subst hk; exact h a e ha
  | succ k => simp at hk
theorem pm_vk {Γ : pmE} {s : State} (h : pmK Γ s) : va_K Γ.2.1 pmCl [] s := ⟨h.2.1, fun k q hk => by simp at hk⟩
theorem V_getf {idx ci k a : Nat} {fs : List Value} {v : Value} (hd : decode M.2.1 pc = .ok (.getfield idx, 3)) (hf : okF M.1.cls idx ci k) (hG : G a = some (.inr (ci, fs))) (hv : fs[k]? = some v) (kk : pV Γ M (pc + 3) lo (v :: st) n G bc bs Q) : pV Γ M pc lo (.ref a :: st) n G bc bs Q := by
  intro p e s m args below meth c R A Qc mc ms X ls H locs cells slots Y
  have hW := kk p e s m args below meth c R A Qc mc ms X ls H locs cells slots Y
  obtain ⟨x1, x2, x3, x4, x5, x6, x7, x8, x9, x10, x11, x12⟩ := X
  obtain ⟨C, T, N, hc, hk, hT, hin, hl⟩ := hf
  have hP : va_P Γ.2.1 pmCl [(a, .inr (ci, fs))] H := pm_one Y.2.2.1 hG
  have hts : ∀ w ∈ pmWs, w.before args s = true := fun w h => x8.1 w h args
  rcases hl with hl | ⟨host, hl⟩
  · exact va_get x1 x2 hts hin x7 (pm_vk x8) hP 0 rfl hc k hk (hts _ hl) (fun x h => hT ▸ h) hv hd hW
  · exact va_getN x1 x2 hts hin x7 (pm_vk x8) hP 0 rfl hc k hk (hts _ hl) (fun x h => hT ▸ h) hv hd hW
theorem V_putf {idx ci k a : Nat} {fs : List Value} {v : Value} {u : Value} {ty : FieldType} (hd : decode M.2.1 pc = .ok (.putfield idx, 3)) (hf : okF M.1.cls idx ci k) (hp : okP ci k false ty) (hG : G a = some (.inr (ci, fs))) (hu : fs[k]? = some u) (hn : narrow ty v = v) (hfit : fits ty v = true)
    (kk : ∀ G' : pmG, G' a = some (.inr (ci, fs.set k v)) → (∀ q, q ≠ a → G' q = G q) → pV Γ M (pc + 3) lo st n G' bc bs Q) : pV Γ M pc lo (v :: .ref a :: st) n G bc bs Q := by
  have hl : k < fs.length := (List.getElem?_eq_some_iff.mp hu).1
  intro p e s m args below meth c R A Qc mc ms X ls H locs cells slots Y
  have hW := kk _ (pmSet_self _ _ _) (fun q h => pmSet_ne _ _ h) p e s m args below meth c R A Qc mc ms X
  obtain ⟨x1, x2, x3, x4, x5, x6, x7, x8, x9, x10, x11, x12⟩ := X
  obtain ⟨y1, y2, y3, y4, y5, y6, y7⟩ := Y
  obtain ⟨C, T, N, hc, hk, hT, hin, hlk⟩ := hf
  obtain ⟨C', T', N', ty0, hc', hk', hty, hnm, hfin, hty0⟩ := hp
  have hrr : (C', T', N') = (C, T, N) := Option.some.inj (hc'.symm.trans hc)
  cases hrr
  have hts : ∀ w ∈ pmWs, w.before args s = true := fun w h => x8.1 w h args
  have hK := pm_vk x8
  have hap := va_apart (own := M.1.cls) hts hin ty0 hty hnm hK hc
  obtain ⟨r, h1, cell, q1, q2, q3, q4⟩ := y3 a _ hG
  have hr : r = (C, T, N) := Option.some.inj (h1.symm.trans hc)
  subst hr
  obtain ⟨hS, hfc, kC, hkC, hkind⟩ := hK.1 ci _ hc
  obtain ⟨cf, kf, fi, f, hi, hsl⟩ := hS k hk
  have hlay := hts _ (hin _ (u_in_lay hk))
  unfold u_lay at hlay
  rw [if_neg (by rw [hfin]; decide)] at hlay
  have hst := (u_facts hfc hkC (u_lays hts hin hk) hi).1
  have h6 := u_store hfc hkC hkind hlay hi (by rw [hty k hk, hty0]) hn hfit
  have fin : ∀ H' : Heap, H'[a]? = some (cell.setSlot f.slot v) → H'.size = H.size → (∀ q, q ≠ a → H'[q]? = H[q]?) → W p Γ.1 e R s m args below meth c H' (locs ++ [⟨a, f.slot⟩]) cells slots (MQ below Qc args s mc ms A) (F0 m (pc + 3) ls st) := by
    intro H' e1 e2 e3
    refine hW ls H' (locs ++ [⟨a, f.slot⟩]) cells slots ⟨y1, e2.trans y2, y3.set ?_ e3, pmSet_dom y4 (y4 a _ hG), y5.put e2 e3 (y4 a _ hG), y6, y7⟩
    rw [hsl] at e1
    exact ⟨_, hc, t_OB.to (V := updV (vp_V fs) k v) ⟨_, e1, q2, q3, t_set q4 hap hk v⟩ (fun j _ => vp_updV_set hl v j)⟩
  rcases hlk with hlk | ⟨host, hlk⟩
  · exact W.putK x1 x2 (f := f) ⟨x7, hts _ hlk, ⟨_, _, _, by rw [← hT]; exact hi⟩, hst⟩ (by rw [q2]; exact h6) q1 q3 (by rw [hsl]; exact k2_hasslot (q4 k hk)) rfl rfl hd fin
  · exact va_WputK x1 x2 (f := f) x7 (hts _ hlk) (by rw [← hT]; exact hi) hst (by rw [q2]; exact h6) q1 q3 (by rw [hsl]; exact k2_hasslot (q4 k hk)) rfl rfl hd fin
theorem V_putF {idx ci k a : Nat} {fs : List Value} {v : Value} {u : Value} {ty : FieldType} (hd : decode M.2.1 pc = .ok (.putfield idx, 3)) (hf : okPF M.1.cls idx ci k ty) (hin2 : M.1.name = "<init>") (hG : G a = some (.inr (ci, fs))) (hu : fs[k]? = some u) (hn : narrow ty v = v) (hfit : fits ty v = true)
    (kk : ∀ G' : pmG, G' a = some (.inr (ci, fs.set k v)) → (∀ q, q ≠ a → G' q = G q) → pV Γ M (pc + 3) lo st n G' bc bs Q) : pV Γ M pc lo (v :: .ref a :: st) n G bc bs Q := by
  have hl : k < fs.length := (List.getElem?_eq_some_iff.mp hu).1
  intro p e s m args below meth c R A Qc mc ms X ls H locs cells slots Y
  have hW := kk _ (pmSet_self _ _ _) (fun q h => pmSet_ne _ _ h) p e s m args below meth c R A Qc mc ms X
  obtain ⟨x1, x2, x3, x4, x5, x6, x7, x8, x9, x10, x11, x12⟩ := X
  obtain ⟨y1, y2, y3, y4, y5, y6, y7⟩ := Y
  obtain ⟨C, T, N, ty0, hc, hk, hT, hC, hin, hlk, hty, hnm, hfin, hty0⟩ := hf
  have hts : ∀ w ∈ pmWs, w.before args s = true := fun w h => x8.1 w h args
  have hK := pm_vk x8
  have hap := va_apart (own := M.1.cls) hts hin ty0 hty hnm hK hc
  obtain ⟨r, h1, cell, q1, q2, q3, q4⟩ := y3 a _ hG
  have hr : r = (C, T, N) := Option.some.inj (h1.symm.trans hc)
  subst hr
  obtain ⟨hS, hfc, kC, hkC, hkind⟩ := hK.1 ci _ hc
  obtain ⟨cf, kf, fi, f, hi, hsl⟩ := hS k hk
  have hlay := hts _ (hin _ (u_in_lay hk))
  unfold u_lay at hlay
  rw [if_pos hfin] at hlay
  have hst := (u_facts hfc hkC (u_lays hts hin hk) hi).1
  have hcf : m.cls = cf := by
    obtain ⟨_, _, c', _, _, _, -, -, hf', -, -, -, hown2, -⟩ := Jvm.Cond.laysFinal_spec hlay
    have e1 : c' = cf := by have := hi.symm.trans hf'; simp at this; exact this.1.symm
    rw [hT, hC] at hown2
    rw [← e1]; exact Option.some.inj (x7.symm.trans hown2)
  have h6 := u_fits hfc hkC hkind (Or.inr hlay) hi (by rw [hty k hk, hty0]) hn hfit
  refine W.putFinK x1 x2 x7 (hts _ hlk) (by rw [← hT]; exact hi) hst hcf (x6 hin2) (by rw [q2]; exact h6) q1 q3 (by rw [hsl]; exact k2_hasslot (q4 k hk)) rfl rfl hd fun H' e1 e2 e3 => ?_
  refine hW ls H' (locs ++ [⟨a, f.slot⟩]) cells slots ⟨y1, e2.trans y2, y3.set ?_ e3, pmSet_dom y4 (y4 a _ hG), y5.put e2 e3 (y4 a _ hG), y6, y7⟩
  rw [hsl] at e1
  exact ⟨_, hc, t_OB.to (V := updV (vp_V fs) k v) ⟨_, e1, q2, q3, t_set q4 hap hk v⟩ (fun j _ => vp_updV_set hl v j)⟩
theorem pm_grow {A : Nat → Prop} {H0 H H' : Heap} {locs : List Loc} {h : Nat} (hS : va_S A H0 H locs) (hh : H.size = h) (z : H'.size = h + 1) (o : ∀ q : Nat, q < h → H'[q]? = H[q]?) : va_S A H0 H' locs :=
  ⟨Nat.le_trans hS.1 (by omega), fun q h1 h2 => (o q (by have := hS.1; omega)).trans (hS.2.1 q h1 h2), hS.2.2⟩
theorem V_new {idx ci N : Nat} {fs : List Value} {bc' bs' : Nat} (hd : decode M.2.1 pc = .ok (.new idx, 3)) (hf : okN M.1.cls idx ci N fs) (hbc : bc = bc' + 1) (hbs : bs = bs' + N) (kk : ∀ G' : pmG, G' n = some (.inr (ci, fs)) → (∀ q, q ≠ n → G' q = G q) → pV Γ M (pc + 3) lo (.ref n :: st) (n + 1) G' bc' bs' Q) : pV Γ M pc lo st n G bc bs Q := by
  intro p e s m args below meth c R A Qc mc ms X ls H locs cells slots Y
  have hW := kk _ (pmSet_self _ _ _) (fun q h => pmSet_ne _ _ h) p e s m args below meth c R A Qc mc ms X
  obtain ⟨x1, x2, x3, x4, x5, x6, x7, x8, x9, ⟨r1, r2, r3, r4⟩, x11, x12⟩ := X
  obtain ⟨y1, y2, y3, y4, y5, y6, y7⟩ := Y
  obtain ⟨C, T, ty0, hc, hin, hty, hcl, hinst, hini, hfs⟩ := hf
  have hts : ∀ w ∈ pmWs, w.before args s = true := fun w h => x8.1 w h args
  have hKn := x8.2.1 ci _ hc
  have hA : A n := x11 n (by rw [← y2]; exact y5.1)
  refine W.newcK x1 x2 x7 (hts _ hcl) (hts _ hinst) (hts _ hini) rfl hd (by omega) (by omega) hKn.2.1 y2 fun H1 kC hkC e1 z1 o1 => ?_
  exact hW ls H1 locs (cells + 1) (slots + N) ⟨y1, z1, y3.push y2 ⟨_, hc, (u_born ty0 hts hin hKn hkC e1 hty).to hfs⟩ o1, pmSet_dom y4 hA, pm_grow y5 y2 z1 o1, by omega, by omega⟩
theorem V_newi {x : Int32} {N bc' bs' : Nat} (hd : decode M.2.1 pc = .ok (.newarray .int, 2)) (hx : x = nI N) (hN : N < 1000000) (hw : Jvm.Cond.arrayClass .int ∈ pmWs) (hk : pmTy 0 = some .int) (hbc : bc = bc' + 1) (hbs : bs = bs' + N) (kk : ∀ G' : pmG, G' n = some (.inl (0, N, .inl (fun _ => 0))) → (∀ q, q ≠ n → G' q = G q) → pV Γ M (pc + 2) lo (.ref n :: st) (n + 1) G' bc' bs' Q) : pV Γ M pc lo (.int x :: st) n G bc bs Q := by
  intro p e s m args below meth c R A Qc mc ms X ls H locs cells slots Y
  have hW := kk _ (pmSet_self _ _ _) (fun q h => pmSet_ne _ _ h) p e s m args below meth c R A Qc mc ms X
  obtain ⟨x1, x2, x3, x4, x5, x6, x7, x8, x9, ⟨r1, r2, r3, r4⟩, x11, x12⟩ := X
  obtain ⟨y1, y2, y3, y4, y5, y6, y7⟩ := Y
  subst hx
  have hA : A n := x11 n (by rw [← y2]; exact y5.1)
  refine va_newaK (atype := .int) x1 x2 (x8.1 _ hw args) rfl hd rfl (nI_pos (by omega)) (nI_clamp (by omega)) (by show N * 4 ≤ _; omega) (by omega) (by omega) y2 fun H1 cA e1 z1 o1 hAr hNm => ?_
  have hcA : cA = Γ.2.2.1 0 := Option.some.inj (hNm.symm.trans (x8.2.2 0 _ hk).2)
  subst hcA
  exact hW ls H1 locs (cells + 1) (slots + N) ⟨y1, z1, y3.push y2 (by show H1[n]? = some (vp_cell _ _); rw [vp_cell_i]; exact e1) o1, pmSet_dom y4 hA, pm_grow y5 y2 z1 o1, by omega, by omega⟩
theorem V_newz {x : Int32} {N bc' bs' : Nat} (hd : decode M.2.1 pc = .ok (.newarray .boolean, 2)) (hx : x = nI N) (hN : N < 1000000) (hw : Jvm.Cond.arrayClass .boolean ∈ pmWs) (hk : pmTy 1 = some .boolean) (hbc : bc = bc' + 1) (hbs : bs = bs' + N) (kk : ∀ G' : pmG, G' n = some (.inl (1, N, .inl (fun _ => 0))) → (∀ q, q ≠ n → G' q = G q) → pV Γ M (pc + 2) lo (.ref n :: st) (n + 1) G' bc' bs' Q) : pV Γ M pc lo (.int x :: st) n G bc bs Q := by
  intro p e s m args below meth c R A Qc mc ms X ls H locs cells slots Y
  have hW := kk _ (pmSet_self _ _ _) (fun q h => pmSet_ne _ _ h) p e s m args below meth c R A Qc mc ms X
  obtain ⟨x1, x2, x3, x4, x5, x6, x7, x8, x9, ⟨r1, r2, r3, r4⟩, x11, x12⟩ := X
  obtain ⟨y1, y2, y3, y4, y5, y6, y7⟩ := Y
  subst hx
  have hA : A n := x11 n (by rw [← y2]; exact y5.1)
  refine va_newaK (atype := .boolean) x1 x2 (x8.1 _ hw args) rfl hd rfl (nI_pos (by omega)) (nI_clamp (by omega)) (by show N * 1 ≤ _; omega) (by omega) (by omega) y2 fun H1 cA e1 z1 o1 hAr hNm => ?_
  have hcA : cA = Γ.2.2.1 1 := Option.some.inj (hNm.symm.trans (x8.2.2 1 _ hk).2)
  subst hcA
  exact hW ls H1 locs (cells + 1) (slots + N) ⟨y1, z1, y3.push y2 (by show H1[n]? = some (vp_cell _ _); rw [vp_cell_i]; exact e1) o1, pmSet_dom y4 hA, pm_grow y5 y2 z1 o1, by omega, by omega⟩
theorem V_anew {x : Int32} {idx k N bc' bs' : Nat} {C : String} (hd : decode M.2.1 pc = .ok (.anewarray idx, 3)) (hx : x = nI N) (hN : N < 1000000) (hcl : Jvm.Cond.classLink M.1.cls idx C ∈ pmWs) (hov : Jvm.Cond.arrayOver (.object C) ∈ pmWs) (hk : pmTy k = some (.object C)) (hbc : bc = bc' + 1) (hbs : bs = bs' + N) (kk : ∀ G' : pmG, G' n = some (.inl (k, N, .inr (.inr (.inr (.inr (fun _ => none)))))) → (∀ q, q ≠ n → G' q = G q) → pV Γ M (pc + 3) lo (.ref n :: st) (n + 1) G' bc' bs' Q) : pV Γ M pc lo (.int x :: st) n G bc bs Q := by
  intro p e s m args below meth c R A Qc mc ms X ls H locs cells slots Y
  have hW := kk _ (pmSet_self _ _ _) (fun q h => pmSet_ne _ _ h) p e s m args below meth c R A Qc mc ms X
  obtain ⟨x1, x2, x3, x4, x5, x6, x7, x8, x9, ⟨r1, r2, r3, r4⟩, x11, x12⟩ := X
  obtain ⟨y1, y2, y3, y4, y5, y6, y7⟩ := Y
  subst hx
  have hA : A n := x11 n (by rw [← y2]; exact y5.1)
  have hcN : (nI N).toNatClampNeg = N := nI_clamp (by omega)
  refine W.anew x1 x2 x7 (x8.1 _ hcl args) (x8.1 _ hov args) rfl hd rfl (nI_pos (by omega)) (by rw [hcN]; omega) (by omega) (by rw [hcN]; omega) fun cA kA comp f1 f2 f3 f4 => ?_
  rw [hcN]
  subst y2
  generalize hH1 : H.push ({ cls := cA, slots := Array.replicate N .null, vm := .none } : Cell) = H1
  have z1 : H1.size = H.size + 1 := by rw [← hH1, Array.size_push]
  have e1 : H1[H.size]? = some (arrV cA N (fun _ => .null)) := by rw [← hH1, Array.getElem?_push_size, ← arrV_new]
  have o1 : ∀ q : Nat, q < H.size → H1[q]? = H[q]? := fun q hq => by rw [← hH1, Array.getElem?_push, if_neg (Nat.ne_of_lt hq)]
  obtain ⟨kA', comp', g1, g2, g3, g4⟩ := (x8.2.2 k _ hk).2
  have hcA : cA = Γ.2.2.1 k := Option.some.inj (f1.symm.trans g4)
  subst hcA
  exact hW ls H1 locs (cells + 1) (slots + N) ⟨y1, z1, y3.push rfl (by show H1[H.size]? = some (vp_cell _ _); rw [vp_cell_q]; exact e1) o1, pmSet_dom y4 hA, pm_grow y5 rfl z1 o1, by omega, by omega⟩
theorem V_iaload {x : Int32} {a N j : Nat} {f : Nat → Int32} (hd : decode M.2.1 pc = .ok (.iaload, 1)) (hk : pmTy 0 = some .int) (hG : G a = some (.inl (0, N, .inl f))) (hx : x = nI j) (hj : j < N) (hN : N < 2 ^ 31) (kk : pV Γ M (pc + 1) lo (.int (f j) :: st) n G bc bs Q) : pV Γ M pc lo (.int x :: .ref a :: st) n G bc bs Q := by
  intro p e s m args below meth c R A Qc mc ms X ls H locs cells slots Y
  have hW := kk p e s m args below meth c R A Qc mc ms X ls H locs cells slots Y
  subst hx
  have hc := nI_clamp (n := j) (by omega)
  have h1 : H[a]? = some (vp_cell (Γ.2.2.1 0) (N, .inl f)) := Y.2.2.1 a _ hG
  exact W.iald (v := .int (f j)) X.1 X.2.1 h1 ((X.2.2.2.2.2.2.2.1.2.2 0 _ hk).1 N (fun j => .int (f j))) (fun q => by cases q) (by show ¬ (_ ∨ (arrV _ _ _).slots.size ≤ _); rw [arrV_size]; exact nI_in hj hN) (by show (arrV _ _ _).slots[_]? = _; rw [hc, arrV_read _ _ hj]) rfl rfl hd hW
theorem V_baload {x : Int32} {a N j : Nat} {f : Nat → Int32} (hd : decode M.2.1 pc = .ok (.baload, 1)) (hk : pmTy 1 = some .boolean) (hG : G a = some (.inl (1, N, .inl f))) (hx : x = nI j) (hj : j < N) (hN : N < 2 ^ 31) (kk : pV Γ M (pc + 1) lo (.int (f j) :: st) n G bc bs Q) : pV Γ M pc lo (.int x :: .ref a :: st) n G bc bs Q := by
  intro p e s m args below meth c R A Qc mc ms X ls H locs cells slots Y
  have hW := kk p e s m args below meth c R A Qc mc ms X ls H locs cells slots Y
  subst hx
  have hc := nI_clamp (n := j) (by omega)
  have h1 : H[a]? = some (vp_cell (Γ.2.2.1 1) (N, .inl f)) := Y.2.2.1 a _ hG
  exact W.zald (v := .int (f j)) X.1 X.2.1 h1 ((X.2.2.2.2.2.2.2.1.2.2 1 _ hk).1 N (fun j => .int (f j))) (fun q => by cases q) (by show ¬ (_ ∨ (arrV _ _ _).slots.size ≤ _); rw [arrV_size]; exact nI_in hj hN) (by show (arrV _ _ _).slots[_]? = _; rw [hc, arrV_read _ _ hj]) rfl rfl hd hW
theorem V_aaload {x : Int32} {a k N j : Nat} {C : String} {f : Nat → Option Nat} (hd : decode M.2.1 pc = .ok (.aaload, 1)) (hk : pmTy k = some (.object C)) (hG : G a = some (.inl (k, N, .inr (.inr (.inr (.inr f)))))) (hx : x = nI j) (hj : j < N) (hN : N < 2 ^ 31) (kk : pV Γ M (pc + 1) lo (va_rf (f j) :: st) n G bc bs Q) : pV Γ M pc lo (.int x :: .ref a :: st) n G bc bs Q := by
  intro p e s m args below meth c R A Qc mc ms X ls H locs cells slots Y
  have hW := kk p e s m args below meth c R A Qc mc ms X ls H locs cells slots Y
  subst hx
  have hc := nI_clamp (n := j) (by omega)
  have h1 : H[a]? = some (vp_cell (Γ.2.2.1 k) (N, .inr (.inr (.inr (.inr f))))) := Y.2.2.1 a _ hG
  exact W.aald (v := va_rf (f j)) (ty := .object C) X.1 X.2.1 h1 ((X.2.2.2.2.2.2.2.1.2.2 k _ hk).1 N (fun j => va_rf (f j))) rfl (fun q => by cases q) (by show ¬ (_ ∨ (arrV _ _ _).slots.size ≤ _); rw [arrV_size]; exact nI_in hj hN) (by show (arrV _ _ _).slots[_]? = _; rw [hc, arrV_read _ _ hj]) rfl rfl hd hW
theorem V_alen {a k : Nat} {v : Int32} {ty : FieldType} {y : vp_A} (hd : decode M.2.1 pc = .ok (.arraylength, 1)) (hk : pmTy k = some ty) (hG : G a = some (.inl (k, y))) (hv : nI y.1 = v) (kk : pV Γ M (pc + 1) lo (.int v :: st) n G bc bs Q) : pV Γ M pc lo (.ref a :: st) n G bc bs Q := by
  intro p e s m args below meth c R A Qc mc ms X ls H locs cells slots Y
  have hW := kk p e s m args below meth c R A Qc mc ms X ls H locs cells slots Y
  have hP : va_P Γ.2.1 pmCl [(a, .inl (Γ.2.2.1 k, y))] H := pm_one Y.2.2.1 hG
  have hK8 := X.2.2.2.2.2.2.2.1
  exact va_alen (tys := [(Γ.2.2.1 k, ty)]) X.1 X.2.1 ⟨hK8.2.1, fun j q hq => by
    cases j with
    | zero => simp at hq; subst hq; exact hK8.2.2 k _ hk
    | succ j => simp at hq⟩ hP 0 0 rfl rfl hv hd hW
theorem V_iastore {x z : Int32} {a N j : Nat} {f : Nat → Int32} (hd : decode M.2.1 pc = .ok (.iastore, 1)) (hk : pmTy 0 = some .int) (hG : G a = some (.inl (0, N, .inl f))) (hx : x = nI j) (hj : j < N) (hN : N < 2 ^ 31) (kk : ∀ G' : pmG, G' a = some (.inl (0, N, .inl (upd f j z))) → (∀ q, q ≠ a → G' q = G q) → pV Γ M (pc + 1) lo st n G' bc bs Q) : pV Γ M pc lo (.int z :: .int x :: .ref a :: st) n G bc bs Q := by
  intro p e s m args below meth c R A Qc mc ms X ls H locs cells slots Y
  have hW := kk _ (pmSet_self _ _ _) (fun q h => pmSet_ne _ _ h) p e s m args below meth c R A Qc mc ms X
  obtain ⟨x1, x2, x3, x4, x5, x6, x7, x8, x9, x10, x11, x12⟩ := X
  obtain ⟨y1, y2, y3, y4, y5, y6, y7⟩ := Y
  subst hx
  have hc := nI_clamp (n := j) (by omega)
  have h1 : H[a]? = some (vp_cell (Γ.2.2.1 0) (N, .inl f)) := y3 a _ hG
  refine W.iast x1 x2 h1 ((x8.2.2 0 _ hk).1 N (fun j => .int (f j))) (fun q => by cases q) (by show ¬ (_ ∨ (arrV _ _ _).slots.size ≤ _); rw [arrV_size]; exact nI_in hj hN) rfl rfl hd fun H1 e1 z1 oq => ?_
  refine hW ls H1 _ cells slots ⟨y1, z1.trans y2, y3.set ?_ oq, pmSet_dom y4 (y4 a _ hG), y5.put z1 oq (y4 a _ hG), y6, y7⟩
  show H1[a]? = some (vp_cell _ _)
  rw [e1, hc, vp_cell_i, vp_cell_i, arrV_store]
  congr 2
  funext q
  by_cases hq : q = j
  · subst hq
    simp [updV, upd]
  · simp [updV, upd, hq]
theorem V_bastore {x z : Int32} {a N j : Nat} {f : Nat → Int32} (hd : decode M.2.1 pc = .ok (.bastore, 1)) (hk : pmTy 1 = some .boolean) (hG : G a = some (.inl (1, N, .inl f))) (hx : x = nI j) (hj : j < N) (hN : N < 2 ^ 31) (hz : z = nI 0 ∨ z = nI 1) (kk : ∀ G' : pmG, G' a = some (.inl (1, N, .inl (upd f j z))) → (∀ q, q ≠ a → G' q = G q) → pV Γ M (pc + 1) lo st n G' bc bs Q) : pV Γ M pc lo (.int z :: .int x :: .ref a :: st) n G bc bs Q := by
  intro p e s m args below meth c R A Qc mc ms X ls H locs cells slots Y
  have hW := kk _ (pmSet_self _ _ _) (fun q h => pmSet_ne _ _ h) p e s m args below meth c R A Qc mc ms X
  obtain ⟨x1, x2, x3, x4, x5, x6, x7, x8, x9, x10, x11, x12⟩ := X
  obtain ⟨y1, y2, y3, y4, y5, y6, y7⟩ := Y
  subst hx
  have hc := nI_clamp (n := j) (by omega)
  have hnz : vp_nar .boolean z = z := by rcases hz with rfl | rfl <;> rfl
  have h1 : H[a]? = some (vp_cell (Γ.2.2.1 1) (N, .inl f)) := y3 a _ hG
  refine W.zast x1 x2 h1 ((x8.2.2 1 _ hk).1 N (fun j => .int (f j))) (fun q => by cases q) (by show ¬ (_ ∨ (arrV _ _ _).slots.size ≤ _); rw [arrV_size]; exact nI_in hj hN) rfl rfl hd fun H1 e1 z1 oq => ?_
  refine hW ls H1 _ cells slots ⟨y1, z1.trans y2, y3.set ?_ oq, pmSet_dom y4 (y4 a _ hG), y5.put z1 oq (y4 a _ hG), y6, y7⟩
  show H1[a]? = some (vp_cell _ _)
  rw [e1, hc, vp_cell_i, vp_cell_i, arrV_store]
  congr 2
  funext q
  by_cases hq : q = j
  · subst hq
    rcases hz with rfl | rfl <;> (simp [updV, upd]; try rfl)
  · simp [updV, upd, hq]
theorem V_aastore {x : Int32} {a b ci N j : Nat} {fs : List Value} {f : Nat → Option Nat} {r : vw_C} (hd : decode M.2.1 pc = .ok (.aastore, 1)) (hk : pmTy (ci + 2) = some (.object r.1)) (hc0 : pmCl[ci]? = some r) (hG : G a = some (.inl (ci + 2, N, .inr (.inr (.inr (.inr f)))))) (hB : G b = some (.inr (ci, fs))) (hx : x = nI j) (hj : j < N) (hN : N < 2 ^ 31)
    (kk : ∀ G' : pmG, G' a = some (.inl (ci + 2, N, .inr (.inr (.inr (.inr (va_up f j (some b))))))) → (∀ q, q ≠ a → G' q = G q) → pV Γ M (pc + 1) lo st n G' bc bs Q) : pV Γ M pc lo (.ref b :: .int x :: .ref a :: st) n G bc bs Q := by
  intro p e s m args below meth c R A Qc mc ms X ls H locs cells slots Y
  have hW := kk _ (pmSet_self _ _ _) (fun q h => pmSet_ne _ _ h) p e s m args below meth c R A Qc mc ms X
  obtain ⟨x1, x2, x3, x4, x5, x6, x7, x8, x9, x10, x11, x12⟩ := X
  obtain ⟨y1, y2, y3, y4, y5, y6, y7⟩ := Y
  subst hx
  have hc := nI_clamp (n := j) (by omega)
  have h1 : H[a]? = some (vp_cell (Γ.2.2.1 (ci + 2)) (N, .inr (.inr (.inr (.inr f))))) := y3 a _ hG
  obtain ⟨r', hr', cellV, g1, g2, g3, -⟩ := y3 b _ hB
  have hcls := (x8.2.1 ci r hc0).2
  obtain ⟨kA, comp, k1, k2, k3, -⟩ := (x8.2.2 (ci + 2) _ hk).2
  have hcomp : comp = Γ.2.1.1 ci := Option.some.inj (k3.symm.trans hcls.1)
  subst hcomp
  obtain ⟨kC, hkC, -⟩ := hcls.2
  refine W.aast x1 x2 h1 (fun q h => by cases h) (fun h => by cases h) k1 k2 rfl hkC ⟨nI_pos (by omega), by show _ < (arrV _ _ _).slots.size; rw [arrV_size, hc]; exact hj⟩ g1 (fun q h => by rw [g3] at h; cases h) (by rw [g2]; exact hkC) (by rw [g2]; exact va_assign hcls) rfl rfl hd fun H1 e1 z1 oq => ?_
  refine hW ls H1 _ cells slots ⟨y1, z1.trans y2, y3.set ?_ oq, pmSet_dom y4 (y4 a _ hG), y5.put z1 oq (y4 a _ hG), y6, y7⟩
  show H1[a]? = some (vp_cell _ _)
  rw [e1, hc, vp_cell_q, vp_cell_q, arrV_store]
  congr 2
  funext q
  by_cases hq : q = j
  · subst hq
    simp [updV, va_up, va_rf]
  · simp [updV, va_up, hq]
theorem V_sld {x : Int32} {j : Nat} (hd : decode M.2.1 pc = .ok (.iaload, 1)) (hx : x = nI j) (hj : j < Γ.2.2.2.2.1) (hN : Γ.2.2.2.2.1 < 2 ^ 31) (kk : pV Γ M (pc + 1) lo (.int (Γ.2.2.2.2.2 j) :: st) n G bc bs Q) : pV Γ M pc lo (.int x :: .ref Γ.2.2.2.1 :: st) n G bc bs Q := by
  intro p e s m args below meth c R A Qc mc ms X ls H locs cells slots Y
  have hW := kk p e s m args below meth c R A Qc mc ms X ls H locs cells slots Y
  obtain ⟨x1, x2, x3, x4, x5, x6, x7, x8, ⟨⟨x9, x9b⟩, x9c⟩, x10, x11, x12⟩ := X
  obtain ⟨y1, y2, y3, y4, y5, y6, y7⟩ := Y
  subst hx
  have hc := nI_clamp (n := j) (by omega)
  exact va_sld x1 x2 x9 x9b x9c y5 (nI_in hj hN) hd (by rw [hc]; exact hW)
theorem V_slen (hd : decode M.2.1 pc = .ok (.arraylength, 1)) (kk : pV Γ M (pc + 1) lo (.int (nI Γ.2.2.2.2.1) :: st) n G bc bs Q) : pV Γ M pc lo (.ref Γ.2.2.2.1 :: st) n G bc bs Q := by
  intro p e s m args below meth c R A Qc mc ms X ls H locs cells slots Y
  have hW := kk p e s m args below meth c R A Qc mc ms X ls H locs cells slots Y
  obtain ⟨x1, x2, x3, x4, x5, x6, x7, x8, ⟨⟨x9, x9b⟩, x9c⟩, x10, x11, x12⟩ := X
  obtain ⟨y1, y2, y3, y4, y5, y6, y7⟩ := Y
  exact va_slen x1 x2 x9 x9b x9c y5 hd hW
end VHEAP
