/-! What every state keeps: loaded classes call only what is there. -/
def okI (ld : LdS) (o a b : Int32) : Prop := o = 0 ∨ (o = nI 1 ∧ ∃ c L, c < 6 ∧ a = nI c ∧ ld c = some L ∧ pNamed L.2.1 b)
def okC (ld : LdS) (len : Nat) (code : Nat → Int32) : Prop := ∀ i, i < len → okI ld (code (i * 3)) (code (i * 3 + 1)) (code (i * 3 + 2))
def gdD (ld : LdS) (c : Nat) (D : Dfn) : Prop := dP D 1 = nI c ∧ ¬ pDup (dNm D) (dN D) ∧ dNm D ≤ 4 ∧ ∀ j, j < dNm D → okC ld (dL D j) (dC D j)
def gdA (ld : LdS) : Prop := ∀ c L, c < 6 → ld c = some L → gdD ld c L.2.1
def okT (ld : LdS) (t : Thr) : Prop := ∀ k, k < t.1 → okC ld (t.2.1 k).2.2.1 (t.2.1 k).2.2.2.1
def aInv (ld : LdS) (nb : Nat) (bt : Nat → Int32 × Dfn) (th : Nat → Thr) : Prop := (∀ i, i < nb → pLd ld (bt i).1) ∧ gdA ld ∧ ∀ t, t < 3 → okT ld (th t)
def ldLe (ld ld' : LdS) : Prop := ∀ c L, c < 6 → ld c = some L → ∃ L', ld' c = some L' ∧ ∀ b, pNamed L.2.1 b → pNamed L'.2.1 b
theorem okI.mono {ld ld' : LdS} {o a b : Int32} (h : okI ld o a b) (hle : ldLe ld ld') : okI ld' o a b := by
  rcases h with h | ⟨h, c, L, hc, ha, hl, hn⟩
  · exact Or.inl h
  · obtain ⟨L', hl', hn'⟩ := hle c L hc hl
    exact Or.inr ⟨h, c, L', hc, ha, hl', hn' b hn⟩
theorem okC.mono {ld ld' : LdS} {len : Nat} {code : Nat → Int32} (h : okC ld len code) (hle : ldLe ld ld') : okC ld' len code := fun i hi => (h i hi).mono hle
theorem okT.mono {ld ld' : LdS} {t : Thr} (h : okT ld t) (hle : ldLe ld ld') : okT ld' t := fun k hk => (h k hk).mono hle
theorem gdD.mono {ld ld' : LdS} {c : Nat} {D : Dfn} (h : gdD ld c D) (hle : ldLe ld ld') : gdD ld' c D := ⟨h.1, h.2.1, h.2.2.1, fun j hj => (h.2.2.2 j hj).mono hle⟩
theorem pLd.mono {ld ld' : LdS} {x : Int32} (h : pLd ld x) (hle : ldLe ld ld') : pLd ld' x := by
  obtain ⟨c, hc, hx, L, hl⟩ := h
  obtain ⟨L', hl', _⟩ := hle c L hc hl
  exact ⟨c, hc, hx, L', hl'⟩
theorem ldLe.refl (ld : LdS) : ldLe ld ld := fun c L _ hl => ⟨L, hl, fun _ h => h⟩
theorem pAlone_4 {ld : LdS} {D : Dfn} (h : pAlone ld D = 0) : ¬ pDup (dNm D) (dN D) ∧ ¬ pUnk D ∧ ¬ pLack ld D := by
  unfold pAlone at h
  by_cases h1 : dP D 0 < nI 1 ∨ nI 9 < dP D 0
  · rw [pI_t h1] at h; exact absurd h (by omega)
  · rw [pI_f h1] at h
    by_cases h2 : pDup (dNi D) (dI D) ∨ pDup (dNf D) (fun k => dF D (k * 3)) ∨ pDup (dNm D) (dN D) ∨ pUnk D
    · rw [pI_t h2] at h; exact absurd h (by omega)
    · rw [pI_f h2] at h
      by_cases h3 : pMeet ld (dP D 1) 7 (dP D 2)
      · rw [pI_t h3] at h; exact absurd h (by omega)
      · rw [pI_f h3] at h
        by_cases h4 : pNoSup ld D ∨ pLack ld D
        · rw [pI_t h4] at h; exact absurd h (by omega)
        · exact ⟨fun e => h2 (Or.inr (Or.inr (Or.inl e))), fun e => h2 (Or.inr (Or.inr (Or.inr e))), fun e => h4 (Or.inr e)⟩
theorem gd_new {ld ld' : LdS} {c : Nat} {D : Dfn} {L' : Nat × Dfn × Dfn} (h : pAlone ld D = 0) (hP : dP D 1 = nI c) (hc : c < 6) (h4 : dNm D ≤ 4) (hle : ldLe ld ld') (hn : ld' c = some L') (hnm : ∀ b, pNamed D b → pNamed L'.2.1 b) : gdD ld' c D := by
  obtain ⟨h1, h2, h3⟩ := pAlone_4 h
  refine ⟨hP, h1, h4, fun j hj i hi => ?_⟩
  by_cases e0 : dC D j (i * 3) = 0
  · exact Or.inl e0
  · by_cases e1 : dC D j (i * 3) = nI 1
    · by_cases e2 : pCal ld D (dC D j (i * 3 + 1)) (dC D j (i * 3 + 2))
      · rcases e2 with ⟨ea, eb⟩ | ⟨_, c', L, hc', ha, hl, hb⟩
        · exact Or.inr ⟨e1, c, L', hc, ea.trans hP, hn, hnm _ eb⟩
        · obtain ⟨L2, hl2, hn2⟩ := hle c' L hc' hl
          exact Or.inr ⟨e1, c', L2, hc', ha, hl2, hn2 _ hb⟩
      · exact absurd ⟨j, hj, i, hi, e1, e2⟩ h3
    · exact absurd ⟨j, hj, i, hi, e0, e1⟩ h2
theorem pRule_0 {ld : LdS} {D E : Dfn} {c : Int32} (h : pRule ld D c E = 0) : pAlone ld D = 0 ∧ dP D 1 = c ∧ pNms E D ∧ pNms D E := by
  unfold pRule at h
  by_cases h0 : pAlone ld D = 0
  · rw [if_pos h0] at h
    unfold pBes at h
    by_cases h1 : dP D 1 ≠ c
    · rw [pI_t h1] at h; exact absurd h (by omega)
    · rw [pI_f h1] at h
      by_cases h2 : dP D 2 ≠ dP E 2 ∨ ¬ pIfs D E
      · rw [pI_t h2] at h; exact absurd h (by omega)
      · rw [pI_f h2] at h
        by_cases h3 : ¬ pFds D E
        · rw [pI_t h3] at h; exact absurd h (by omega)
        · rw [pI_f h3] at h
          by_cases h4 : ¬ pNms E D
          · rw [pI_t h4] at h; exact absurd h (by omega)
          · rw [pI_f h4] at h
            by_cases h5 : ¬ pNms D E
            · rw [pI_t h5] at h; exact absurd h (by omega)
            · exact ⟨h0, Classical.not_not.mp h1, Classical.not_not.mp h4, Classical.not_not.mp h5⟩
  · rw [if_neg h0] at h; exact absurd h h0
theorem nms_n {D E : Dfn} (h : pNms D E) : ∀ b, pNamed E b → pNamed D b := fun b ⟨j, hj, e⟩ => by
  obtain ⟨m, hm, e'⟩ := h j hj
  exact ⟨m, hm, e'.trans e⟩
-- names of the parts stay under the transformers
theorem dChg_P1 (k : Nat) (v : Int32) (D : Dfn) : dP (dChg k v D) 1 = dP D 1 := by
  unfold dChg
  split
  · rfl
  · split
    · show upd (dP D) 3 v 1 = _; rw [pk_un (by omega)]
    · split
      · by_cases e : ∃ j, j < dNm D ∧ dN D j = v
        · rw [pI_t e]; rfl
        · rw [pI_f e]
      · split
        · split
          · rfl
          · rfl
        · rfl
theorem dChgs_P1 (trs : Nat → Trf) (c : Int32) (rp : Bool) (D : Dfn) : ∀ k, dP (dChgs trs c rp D k) 1 = dP D 1
  | 0 => rfl
  | k + 1 => by
    show dP (pI ((trs k).1 = true ∧ (trs k).2.2.2.2 = rp ∧ ((trs k).2.2.2.1 = -1 ∨ (trs k).2.2.2.1 = c)) (dChg (trs k).2.1 (trs k).2.2.1 (dChgs trs c rp D k)) (dChgs trs c rp D k)) 1 = _
    by_cases e : (trs k).1 = true ∧ (trs k).2.2.2.2 = rp ∧ ((trs k).2.2.2.1 = -1 ∨ (trs k).2.2.2.1 = c)
    · rw [pI_t e, dChg_P1, dChgs_P1 trs c rp D k]
    · rw [pI_f e, dChgs_P1 trs c rp D k]
theorem dTr_P1 (trs : Nat → Trf) (D : Dfn) (c : Int32) : dP (dTr trs D c) 1 = dP D 1 := by
  unfold dTr
  rw [dChgs_P1, dChgs_P1]
-- load
theorem aInv.load {ld : LdS} {nb : Nat} {bt : Nat → Int32 × Dfn} {th : Nat → Thr} {j : Nat} {D O : Dfn} (iv : aInv ld nb bt th) (hj : j < 6) (hl : ld j = none) (hP : dP D 1 = nI j) (h0 : pAlone ld D = 0) (h4 : dNm D ≤ 4) : aInv (va_up ld j (some (1, D, O))) nb bt th := by
  have hle : ldLe ld (va_up ld j (some (1, D, O))) := fun c L hc h => by
    have e : c ≠ j := fun e => by rw [e, hl] at h; cases h
    exact ⟨L, by rw [va_up_ne _ _ e]; exact h, fun _ h => h⟩
  refine ⟨fun i hi => (iv.1 i hi).mono hle, fun c L hc h => ?_, fun t ht => (iv.2.2 t ht).mono hle⟩
  by_cases e : c = j
  · subst e
    have h' := h
    rw [va_up_self] at h
    cases h
    exact gd_new h0 hP hc h4 hle h' (fun b q => q)
  · rw [va_up_ne _ _ e] at h
    exact (iv.2.1 c L hc h).mono hle
-- repeat
theorem aInv.rep {ld : LdS} {nb : Nat} {bt : Nat → Int32 × Dfn} {th : Nat → Thr} {c : Nat} {L : Nat × Dfn × Dfn} {D O : Dfn} {k : Nat} (iv : aInv ld nb bt th) (hc : c < 6) (hl : ld c = some L) (h0 : pRule ld D (nI c) L.2.1 = 0) (h4 : dNm D ≤ 4) : aInv (va_up ld c (some (k, D, O))) nb bt th := by
  obtain ⟨r0, r1, r2, r3⟩ := pRule_0 h0
  have hle : ldLe ld (va_up ld c (some (k, D, O))) := fun c' L' hc' h => by
    by_cases e : c' = c
    · subst e
      rw [hl] at h
      cases h
      exact ⟨(k, D, O), by rw [va_up_self], nms_n r3⟩
    · exact ⟨L', by rw [va_up_ne _ _ e]; exact h, fun _ h => h⟩
  refine ⟨fun i hi => (iv.1 i hi).mono hle, fun c' L' hc' h => ?_, fun t ht => (iv.2.2 t ht).mono hle⟩
  by_cases e : c' = c
  · subst e
    have h' := h
    rw [va_up_self] at h
    cases h
    exact gd_new r0 r1 hc h4 hle h' (fun b q => q)
  · rw [va_up_ne _ _ e] at h
    exact (iv.2.1 c' L' hc' h).mono hle
-- swap
theorem ldI_spec {ld : LdS} {trs : Nat → Trf} {bt : Nat → Int32 × Dfn} : ∀ k, (∀ c, c < 6 → ld c = none → ldI ld trs bt k c = none) ∧ ∀ c L, c < 6 → ld c = some L → ∃ L', ldI ld trs bt k c = some L' ∧ (L' = L ∨ ∃ i, i < k ∧ (bt i).1 = nI c ∧ L'.2.1 = dTr trs (bt i).2 (bt i).1)
  | 0 => ⟨fun c _ h => h, fun c L _ h => ⟨L, h, Or.inl rfl⟩⟩
  | k + 1 => by
    obtain ⟨h1, h2⟩ := ldI_spec (ld := ld) (trs := trs) (bt := bt) k
    by_cases q : pLd (ldI ld trs bt k) (bt k).1
    · obtain ⟨c', hc', hx, L', hl'⟩ := q
      have e : ldI ld trs bt (k + 1) = va_up (ldI ld trs bt k) c' (some (L'.1 + 1, dTr trs (bt k).2 (bt k).1, dOr trs (bt k).2 (bt k).1)) := insLd_some hc' hx hl'
      rw [e]
      refine ⟨fun c hc hn => ?_, fun c L hc hl => ?_⟩
      · have e' : c ≠ c' := fun e => by rw [← e, h1 c hc hn] at hl'; cases hl'
        rw [va_up_ne _ _ e']; exact h1 c hc hn
      · by_cases e' : c = c'
        · subst e'
          exact ⟨_, by rw [va_up_self], Or.inr ⟨k, by omega, hx, rfl⟩⟩
        · rw [va_up_ne _ _ e']
          obtain ⟨L2, a, b⟩ := h2 c L hc hl
          refine ⟨L2, a, b.elim Or.inl (fun ⟨i, i1, i2⟩ => Or.inr ⟨i, by omega, i2⟩)⟩
    · have e : ldI ld trs bt (k + 1) = ldI ld trs bt k := insLd_none q
      rw [e]
      refine ⟨h1, fun c L hc hl => ?_⟩
      obtain ⟨L2, a, b⟩ := h2 c L hc hl
      exact ⟨L2, a, b.elim Or.inl (fun ⟨i, i1, i2⟩ => Or.inr ⟨i, by omega, i2⟩)⟩
theorem aInv.swap {ld : LdS} {trs : Nat → Trf} {nb : Nat} {bt : Nat → Int32 × Dfn} {th : Nat → Thr} (iv : aInv ld nb bt th) (h0 : ∀ i, i < nb → swR ld trs (bt i).1 (bt i).2 = 0) (h4 : ∀ i, i < nb → dNm (dTr trs (bt i).2 (bt i).1) ≤ 4) : aInv (ldI ld trs bt nb) 0 bt th := by
  obtain ⟨s1, s2⟩ := ldI_spec (ld := ld) (trs := trs) (bt := bt) nb
  have rule : ∀ c L i, c < 6 → ld c = some L → i < nb → (bt i).1 = nI c → pRule ld (dTr trs (bt i).2 (bt i).1) (nI c) L.2.1 = 0 := fun c L i hc hl hi e => by
    have := h0 i hi
    rw [swR_some hc e hl, e] at this
    rw [e]; exact this
  have hle : ldLe ld (ldI ld trs bt nb) := fun c L hc h => by
    obtain ⟨L', a, b⟩ := s2 c L hc h
    refine ⟨L', a, ?_⟩
    rcases b with b | ⟨i, hi, e, b⟩
    · rw [b]; exact fun _ h => h
    · rw [b]; exact nms_n (pRule_0 (rule c L i hc h hi e)).2.2.2
  refine ⟨fun i hi => absurd hi (Nat.not_lt_zero _), fun c L' hc h => ?_, fun t ht => (iv.2.2 t ht).mono hle⟩
  cases hl : ld c with
  | none => rw [s1 c hc hl] at h; cases h
  | some L =>
    obtain ⟨L2, a, b⟩ := s2 c L hc hl
    rw [h] at a
    cases a
    rcases b with b | ⟨i, hi, e, b⟩
    · rw [b]; exact (iv.2.1 c L hc hl).mono hle
    · have r := pRule_0 (rule c L i hc hl hi e)
      rw [b]
      exact gd_new r.1 r.2.1 hc (h4 i hi) hle h (fun x q => by rw [b]; exact q)
-- threads
theorem fstN {D : Dfn} {y : Int32} (h : pNamed D y) : ∃ j, dFst D y j := by
  obtain ⟨j, hj, e⟩ := h
  obtain ⟨k, ⟨k1, k2⟩, k3⟩ := leastN (P := fun j => j < dNm D ∧ dN D j = y) j ⟨hj, e⟩
  exact ⟨k, k1, k2, fun i hi e => k3 i hi ⟨by omega, e⟩⟩
theorem pEnt_s {ld : LdS} {t : Thr} {x y : Int32} {c j : Nat} {L : Nat × Dfn × Dfn} (ht : t.1 < 5) (hc : c < 6) (hx : x = nI c) (hl : ld c = some L) (h4 : dNm L.2.1 ≤ 4) (hj : dFst L.2.1 y j) : pEnt ld t x y = some (t.1 + 1, va_up t.2.1 t.1 (x, nI L.1, dL L.2.1 j, dC L.2.1 j, 0, nI 0), t.2.2) := by
  unfold pEnt
  rw [if_pos ht, ldx_some hc hx hl]
  show ((pFind L.2.1 y).map _) = _
  rw [pFind_some h4 hj]
  rfl
theorem pEnt_n {ld : LdS} {t : Thr} {x y : Int32} (h : ¬ pLd ld x ∨ ∃ c L, c < 6 ∧ x = nI c ∧ ld c = some L ∧ ∀ j, j < dNm L.2.1 → dN L.2.1 j ≠ y) : pEnt ld t x y = none := by
  unfold pEnt
  by_cases ht : t.1 < 5
  · rw [if_pos ht]
    rcases h with h | ⟨c, L, hc, hx, hl, h⟩
    · rw [ldx_none h]; rfl
    · rw [ldx_some hc hx hl]
      show ((pFind L.2.1 y).map _) = _
      rw [pFind_none h]
      rfl
  · rw [if_neg ht]
theorem okT.ent {ld : LdS} {t t' : Thr} {x y : Int32} (hg : gdA ld) (h : okT ld t) (he : pEnt ld t x y = some t') : okT ld t' := by
  unfold pEnt at he
  by_cases ht : t.1 < 5
  · rw [if_pos ht] at he
    cases hL : ldx ld x with
    | none => rw [hL] at he; cases he
    | some L =>
      obtain ⟨c, hc, hx, hl⟩ := ldx_of hL
      rw [hL] at he
      have he : (pFind L.2.1 y).map (fun k => (t.1 + 1, va_up t.2.1 t.1 (x, nI L.1, dL L.2.1 k, dC L.2.1 k, 0, nI 0), t.2.2)) = some t' := he
      have g := hg c L hc hl
      by_cases q : pNamed L.2.1 y
      · obtain ⟨j, hj⟩ := fstN q
        rw [pFind_some g.2.2.1 hj] at he
        cases he
        intro k hk
        have hk : k < t.1 + 1 := hk
        show okC ld (va_up t.2.1 t.1 (x, nI L.1, dL L.2.1 j, dC L.2.1 j, 0, nI 0) k).2.2.1 (va_up t.2.1 t.1 (x, nI L.1, dL L.2.1 j, dC L.2.1 j, 0, nI 0) k).2.2.2.1
        by_cases e : k = t.1
        · rw [e, va_up_self]; exact g.2.2.2 j hj.1
        · rw [va_up_ne _ _ e]; exact h k (by omega)
      · rw [pFind_none (fun j hj e => q ⟨j, hj, e⟩)] at he
        cases he
  · rw [if_neg ht] at he; cases he
theorem okT.up {ld : LdS} {t : Thr} {i : Nat} {F : Frm} {z : Int32} (h : okT ld t) (hF : okC ld F.2.2.1 F.2.2.2.1) : okT ld (t.1, va_up t.2.1 i F, z) := fun k hk => by
  show okC ld (va_up t.2.1 i F k).2.2.1 (va_up t.2.1 i F k).2.2.2.1
  by_cases e : k = i
  · rw [e, va_up_self]; exact hF
  · rw [va_up_ne _ _ e]; exact h k hk
theorem okT.step {ld : LdS} {t : Thr} (hg : gdA ld) (h0 : t.1 ≠ 0) (h : okT ld t) : okT ld (pStep ld t) := by
  have hF : okC ld (t.2.1 (t.1 - 1)).2.2.1 (t.2.1 (t.1 - 1)).2.2.2.1 := h _ (by omega)
  unfold pStep
  simp only []
  split
  · unfold pLv
    split
    · exact fun k hk => absurd hk (Nat.not_lt_zero _)
    · intro k hk
      have hk : k < t.1 - 1 := hk
      show okC ld (va_up t.2.1 (t.1 - 2) _ k).2.2.1 (va_up t.2.1 (t.1 - 2) _ k).2.2.2.1
      by_cases e : k = t.1 - 2
      · rw [e, va_up_self]; exact h (t.1 - 2) (by omega)
      · rw [va_up_ne _ _ e]; exact h k (by omega)
  · split
    · exact okT.up h hF
    · have hb : okT ld (t.1, va_up t.2.1 (t.1 - 1) (fNext (t.2.1 (t.1 - 1))), t.2.2) := okT.up h hF
      cases he : pEnt ld (t.1, va_up t.2.1 (t.1 - 1) (fNext (t.2.1 (t.1 - 1))), t.2.2) ((t.2.1 (t.1 - 1)).2.2.2.1 ((t.2.1 (t.1 - 1)).2.2.2.2.1 * 3 + 1)) ((t.2.1 (t.1 - 1)).2.2.2.1 ((t.2.1 (t.1 - 1)).2.2.2.2.1 * 3 + 2)) with
      | none => exact hb
      | some t' => exact okT.ent hg hb he
theorem okT.stp {ld : LdS} (hg : gdA ld) : ∀ k t, okT ld t → okT ld (stp ld k t).1
  | 0, t, h => h
  | k + 1, t, h => by
    by_cases e : t.1 = 0
    · rw [stp_idle e]; exact h
    · rw [stp_go e]; exact okT.stp hg k _ (okT.step hg e h)
theorem aInv.th {ld : LdS} {nb : Nat} {bt : Nat → Int32 × Dfn} {th : Nat → Thr} {t : Nat} {t' : Thr} (iv : aInv ld nb bt th) (h : okT ld t') : aInv ld nb bt (va_up th t t') := ⟨iv.1, iv.2.1, fun s hs => by
  by_cases e : s = t
  · rw [e, va_up_self]; exact h
  · rw [va_up_ne _ _ e]; exact iv.2.2 s hs⟩
theorem aInv.queue {ld : LdS} {nb : Nat} {bt : Nat → Int32 × Dfn} {th : Nat → Thr} {x : Int32} {D : Dfn} (iv : aInv ld nb bt th) (h : pLd ld x) : aInv ld (nb + 1) (va_up bt nb (x, D)) th := ⟨fun i hi => by
  by_cases e : i = nb
  · rw [e, va_up_self]; exact h
  · rw [va_up_ne _ _ e]; exact iv.1 i (by omega), iv.2.1, iv.2.2⟩
