/-! Calls: the frames of a thread. -/
abbrev Frm : Type := Int32 × Int32 × Nat × (Nat → Int32) × Nat × Int32
abbrev Thr : Type := Nat × (Nat → Frm) × Int32
def isFm (G : pmG) (a : Nat) (F : Frm) : Prop := isFrame G a F.1 F.2.1 F.2.2.1 F.2.2.2.1 F.2.2.2.2.1 F.2.2.2.2.2 ∧ F.2.2.2.2.1 ≤ F.2.2.1
def isCl (G : pmG) (a : Nat) (t : Thr) : Prop := t.1 ≤ 5 ∧ G a = some (.inr (kCl, [.ref (a + 1), .int (nI t.1), .int t.2.2])) ∧ (∃ f, G (a + 1) = some (.inl (kFr + 2, 5, .inr (.inr (.inr (.inr f))))) ∧ ∀ k, k < 5 → f k = some (a + 2 + 3 * k)) ∧ (∀ k, k < 5 → anFrame G (a + 2 + 3 * k)) ∧ ∀ k, k < t.1 → isFm G (a + 2 + 3 * k) (t.2.1 k)
theorem isFm.kept {G G' : pmG} {a : Nat} {F : Frm} (h : isFm G a F) (hq : ∀ q, a ≤ q → q < a + 3 → G' q = G q) : isFm G' a F := ⟨isFrame.kept h.1 hq, h.2⟩
theorem isCl.kept {G G' : pmG} {a : Nat} {t : Thr} (h : isCl G a t) (hq : ∀ q, a ≤ q → q < a + 17 → G' q = G q) : isCl G' a t := by
  obtain ⟨h0, h1, ⟨f, h2, h3⟩, h4, h5⟩ := h
  exact ⟨h0, by rw [hq a (by omega) (by omega)]; exact h1, ⟨f, by rw [hq _ (by omega) (by omega)]; exact h2, h3⟩, fun k hk => (h4 k hk).kept fun q g1 g2 => hq q (by omega) (by omega), fun k hk => (h5 k hk).kept fun q g1 g2 => hq q (by omega) (by omega)⟩
-- a class by its number, a method by its name
def pCls (x : Int32) : Option Nat := if x = nI 0 then some 0 else if x = nI 1 then some 1 else if x = nI 2 then some 2 else if x = nI 3 then some 3 else if x = nI 4 then some 4 else if x = nI 5 then some 5 else none
def ldx (ld : LdS) (x : Int32) : Option (Nat × Dfn × Dfn) := (pCls x).bind ld
def pFind (D : Dfn) (y : Int32) : Option Nat := if 0 < dNm D ∧ dN D 0 = y then some 0 else if 1 < dNm D ∧ dN D 1 = y then some 1 else if 2 < dNm D ∧ dN D 2 = y then some 2 else if 3 < dNm D ∧ dN D 3 = y then some 3 else none
theorem pCls_nI : ∀ c, c < 6 → pCls (nI c) = some c := by decide
theorem pCls_some {x : Int32} {c : Nat} (h : pCls x = some c) : c < 6 ∧ x = nI c := by
  unfold pCls at h
  repeat' split at h
  all_goals first | (cases h; exact ⟨by omega, by assumption⟩) | cases h
theorem ldx_some {ld : LdS} {x : Int32} {c : Nat} {L : Nat × Dfn × Dfn} (hc : c < 6) (hx : x = nI c) (hl : ld c = some L) : ldx ld x = some L := by
  unfold ldx
  rw [hx, pCls_nI c hc]
  exact hl
theorem ldx_none {ld : LdS} {x : Int32} (h : ¬ pLd ld x) : ldx ld x = none := by
  unfold ldx
  cases hc : pCls x with
  | none => rfl
  | some c =>
    obtain ⟨h1, h2⟩ := pCls_some hc
    show ld c = none
    cases hl : ld c with
    | none => rfl
    | some L => exact absurd ⟨c, h1, h2, L, hl⟩ h
theorem ldx_of {ld : LdS} {x : Int32} {L : Nat × Dfn × Dfn} (h : ldx ld x = some L) : ∃ c, c < 6 ∧ x = nI c ∧ ld c = some L := by
  unfold ldx at h
  cases hc : pCls x with
  | none => rw [hc] at h; cases h
  | some c =>
    rw [hc] at h
    obtain ⟨h1, h2⟩ := pCls_some hc
    exact ⟨c, h1, h2, h⟩
theorem pFind_some {D : Dfn} {y : Int32} {k : Nat} (h4 : dNm D ≤ 4) (h : dFst D y k) : pFind D y = some k := by
  obtain ⟨h1, h2, h3⟩ := h
  unfold pFind
  rcases (show k = 0 ∨ k = 1 ∨ k = 2 ∨ k = 3 by omega) with rfl | rfl | rfl | rfl
  · rw [if_pos ⟨h1, h2⟩]
  · rw [if_neg (fun e => h3 0 (by omega) e.2), if_pos ⟨h1, h2⟩]
  · rw [if_neg (fun e => h3 0 (by omega) e.2), if_neg (fun e => h3 1 (by omega) e.2), if_pos ⟨h1, h2⟩]
  · rw [if_neg (fun e => h3 0 (by omega) e.2), if_neg (fun e => h3 1 (by omega) e.2), if_neg (fun e => h3 2 (by omega) e.2), if_pos ⟨h1, h2⟩]
theorem pFind_none {D : Dfn} {y : Int32} (h : ∀ j, j < dNm D → dN D j ≠ y) : pFind D y = none := by
  unfold pFind
  rw [if_neg (fun e => h 0 e.1 e.2), if_neg (fun e => h 1 e.1 e.2), if_neg (fun e => h 2 e.1 e.2), if_neg (fun e => h 3 e.1 e.2)]
-- a frame comes, a frame goes, a step
def pEnt (ld : LdS) (t : Thr) (x y : Int32) : Option Thr := if t.1 < 5 then (ldx ld x).bind fun L => (pFind L.2.1 y).map fun k => (t.1 + 1, va_up t.2.1 t.1 (x, nI L.1, dL L.2.1 k, dC L.2.1 k, 0, nI 0), t.2.2) else none
def fAdd (F : Frm) (x : Int32) : Frm := (F.1, F.2.1, F.2.2.1, F.2.2.2.1, F.2.2.2.2.1, F.2.2.2.2.2 + x)
def fNext (F : Frm) : Frm := (F.1, F.2.1, F.2.2.1, F.2.2.2.1, F.2.2.2.2.1 + 1, F.2.2.2.2.2)
def pLv (t : Thr) : Thr := if t.1 = 1 then (0, t.2.1, (t.2.1 0).2.2.2.2.2) else (t.1 - 1, va_up t.2.1 (t.1 - 2) (fAdd (t.2.1 (t.1 - 2)) (t.2.1 (t.1 - 1)).2.2.2.2.2), t.2.2)
def pStep (ld : LdS) (t : Thr) : Thr :=
  let F := t.2.1 (t.1 - 1)
  if F.2.2.1 ≤ F.2.2.2.2.1 then pLv t
  else if F.2.2.2.1 (F.2.2.2.2.1 * 3) = 0 then (t.1, va_up t.2.1 (t.1 - 1) (fAdd (fNext F) (F.2.2.2.1 (F.2.2.2.2.1 * 3 + 1))), t.2.2)
  else (pEnt ld (t.1, va_up t.2.1 (t.1 - 1) (fNext F), t.2.2) (F.2.2.2.1 (F.2.2.2.2.1 * 3 + 1)) (F.2.2.2.1 (F.2.2.2.2.1 * 3 + 2))).getD (t.1, va_up t.2.1 (t.1 - 1) (fNext F), t.2.2)
theorem isCl.frm {G G' : pmG} {a j : Nat} {t : Thr} {F : Frm} (h : isCl G a t) (hj : j < 5) (hm : isFm G' (a + 2 + 3 * j) F) (hq : ∀ q, (q < a + 2 + 3 * j ∨ a + 2 + 3 * j + 3 ≤ q) → G' q = G q) : isCl G' a (t.1, va_up t.2.1 j F, t.2.2) := by
  obtain ⟨h0, h1, ⟨f, h2, h3⟩, h4, h5⟩ := h
  refine ⟨h0, by rw [hq a (by omega)]; exact h1, ⟨f, by rw [hq _ (by omega)]; exact h2, h3⟩, fun k hk => ?_, fun k hk => ?_⟩
  · by_cases e : k = j
    · subst e; exact ⟨_, _, _, _, _, _, hm.1⟩
    · exact (h4 k hk).kept fun q g1 g2 => hq q (by omega)
  · have hk' : k < t.1 := hk
    show isFm G' _ (va_up t.2.1 j F k)
    by_cases e : k = j
    · subst e; rw [va_up_self]; exact hm
    · rw [va_up_ne _ _ e]; exact (h5 k hk').kept fun q g1 g2 => hq q (by omega)
set_option maxHeartbeats 1000000 in
theorem c_Cl_init {Γ : pmE} {G : pmG} {n : Nat} {Q : pmPost} {fr : Nat → Frm} (h1 : G n = some (.inr (kCl, [.null, .int 0, .int 0]))) (hQ : ∀ G', isCl G' n (0, fr, nI 0) → (∀ q, (q < n ∨ n + 17 ≤ q) → G' q = G q) → Q none (n + 17) G') : pV Γ m_Cl_init 0 [some (.ref n), none] [] (n + 1) G 16 130 Q := by
  refine V_aload_n d_Cl_init_0 rfl ?_
  refine V_objInit d_Cl_init_1 w_188 w_21 w_22 (by decide +kernel) rfl ?_
  refine V_aload_n d_Cl_init_4 rfl ?_
  refine V_iconst (v := nI 5) d_Cl_init_5 (by decide +kernel) ?_
  refine V_anew (k := 8) (N := 5) d_Cl_init_6 rfl (by decide) w_189 w_190 rfl (by rfl) (by rfl) (fun G1 hn1 ho1 => ?_)
  have hn1 : G1 (n + 1) = some (.inl (8, 5, .inr (.inr (.inr (.inr (fun _ => none)))))) := hn1
  show pV Γ _ _ _ (.ref (n + 1) :: _) (n + 2) _ _ _ _
  have h1 := (ho1 _ (by omega)).trans h1
  refine V_putF d_Cl_init_9 p_Cl_11 rfl h1 rfl rfl rfl (fun G2 h1z ho2 => ?_)
  have h1 : G2 n = some (.inr (kCl, [.ref (n + 1), .int 0, .int 0])) := h1z
  have hn1 := (ho2 _ (by omega)).trans hn1
  refine V_aload_n d_Cl_init_12 rfl ?_
  refine V_iconst (v := nI 0) d_Cl_init_13 (by decide +kernel) ?_
  refine V_putf d_Cl_init_14 f_Cl_17 p_Cl_17 h1 rfl rfl rfl (fun G3 h1z ho3 => ?_)
  have h1 : G3 n = some (.inr (kCl, [.ref (n + 1), .int (nI 0), .int 0])) := h1z
  have hn1 := (ho3 _ (by omega)).trans hn1
  refine V_aload_n d_Cl_init_17 rfl ?_
  refine V_iconst (v := nI 0) d_Cl_init_18 (by decide +kernel) ?_
  refine V_putf d_Cl_init_19 f_Cl_21 p_Cl_21 h1 rfl rfl rfl (fun G4 h1z ho4 => ?_)
  have h1 : G4 n = some (.inr (kCl, [.ref (n + 1), .int (nI 0), .int (nI 0)])) := h1z
  have hn1 := (ho4 _ (by omega)).trans hn1
  refine V_iconst (v := nI 0) d_Cl_init_22 (by decide +kernel) ?_
  refine V_istore_n d_Cl_init_23 (Nat.le_of_ble_eq_true rfl) ?_
  show pV Γ _ _ [some (.ref n), some (.int (nI 0))] _ _ _ _ _ _
  refine V_iload_n d_Cl_init_24 rfl ?_
  refine V_iconst (v := nI 5) d_Cl_init_25 (by decide +kernel) ?_
  refine V_icmp_geN (tgt := 48) d_Cl_init_26 (by decide) (by omega) (by omega) (fun h => absurd h (by omega)) (fun _ => ?_)
  refine V_aload_n d_Cl_init_29 rfl ?_
  refine V_getf d_Cl_init_30 f_Cl_11 h1 rfl ?_
  refine V_iload_n d_Cl_init_33 rfl ?_
  refine V_new d_Cl_init_34 n_Cl_9 (by rfl) (by rfl) (fun G5 hn5 ho5 => ?_)
  have hn5 : G5 (n + 2) = some (.inr (kFr, [.int 0, .int 0, .null, .int 0, .int 0])) := hn5
  show pV Γ _ _ _ (.ref (n + 2) :: _) (n + 3) _ _ _ _
  have h1 := (ho5 _ (by omega)).trans h1
  have hn1 := (ho5 _ (by omega)).trans hn1
  refine V_dup d_Cl_init_37 rfl ?_
  refine V_callI (As := []) (rest := [.ref (n + 2), .int (nI 0), .ref (n + 1)]) (lo' := [some (.ref (n + 2))]) (bc1 := 2) (bs1 := 20) (bc' := 12) (bs' := 100) d_Cl_init_38 k_Cl_init_24 rfl rfl rfl rfl (by rfl) (by rfl) ?_
  refine c_Fr_init hn5 (fun G6 hf0 ho6 => ?_)
  have h1 := (ho6 _ (by omega)).trans h1
  have hn1 := (ho6 _ (by omega)).trans hn1
  obtain ⟨_, _, _, _, _, _, hx0⟩ := hf0
  show pV Γ m_Cl_init 41 [some (.ref n), some (.int (nI 0))] [.ref (n + 2), .int (nI 0), .ref (n + 1)] (n + 5) G6 12 100 Q
  refine V_aastore (ci := 6) (j := 0) d_Cl_init_41 rfl rfl hn1 hx0.1 rfl (by omega) (by omega) (fun G7 hn1z ho7 => ?_)
  have hn1 := hn1z
  have h1 := (ho7 _ (by omega)).trans h1
  have hx0 := hx0.kept (fun q g1 g2 => ho7 q (by omega))
  refine V_iincN d_Cl_init_42 rfl ?_
  show pV Γ _ _ [some (.ref n), some (.int (nI 1))] _ _ _ _ _ _
  refine V_goto (tgt := 24) d_Cl_init_45 (by decide) ?_
  refine V_iload_n d_Cl_init_24 rfl ?_
  refine V_iconst (v := nI 5) d_Cl_init_25 (by decide +kernel) ?_
  refine V_icmp_geN (tgt := 48) d_Cl_init_26 (by decide) (by omega) (by omega) (fun h => absurd h (by omega)) (fun _ => ?_)
  refine V_aload_n d_Cl_init_29 rfl ?_
  refine V_getf d_Cl_init_30 f_Cl_11 h1 rfl ?_
  refine V_iload_n d_Cl_init_33 rfl ?_
  refine V_new d_Cl_init_34 n_Cl_9 (by rfl) (by rfl) (fun G8 hn8 ho8 => ?_)
  have hn8 : G8 (n + 5) = some (.inr (kFr, [.int 0, .int 0, .null, .int 0, .int 0])) := hn8
  show pV Γ _ _ _ (.ref (n + 5) :: _) (n + 6) _ _ _ _
  have h1 := (ho8 _ (by omega)).trans h1
  have hn1 := (ho8 _ (by omega)).trans hn1
  have hx0 := hx0.kept (fun q g1 g2 => ho8 q (by omega))
  refine V_dup d_Cl_init_37 rfl ?_
  refine V_callI (As := []) (rest := [.ref (n + 5), .int (nI 1), .ref (n + 1)]) (lo' := [some (.ref (n + 5))]) (bc1 := 2) (bs1 := 20) (bc' := 9) (bs' := 75) d_Cl_init_38 k_Cl_init_24 rfl rfl rfl rfl (by rfl) (by rfl) ?_
  refine c_Fr_init hn8 (fun G9 hf1 ho9 => ?_)
  have h1 := (ho9 _ (by omega)).trans h1
  have hn1 := (ho9 _ (by omega)).trans hn1
  have hx0 := hx0.kept (fun q g1 g2 => ho9 q (by omega))
  obtain ⟨_, _, _, _, _, _, hx1⟩ := hf1
  show pV Γ m_Cl_init 41 [some (.ref n), some (.int (nI 1))] [.ref (n + 5), .int (nI 1), .ref (n + 1)] (n + 8) G9 9 75 Q
  refine V_aastore (ci := 6) (j := 1) d_Cl_init_41 rfl rfl hn1 hx1.1 rfl (by omega) (by omega) (fun G10 hn1z ho10 => ?_)
  have hn1 := hn1z
  have h1 := (ho10 _ (by omega)).trans h1
  have hx0 := hx0.kept (fun q g1 g2 => ho10 q (by omega))
  have hx1 := hx1.kept (fun q g1 g2 => ho10 q (by omega))
  refine V_iincN d_Cl_init_42 rfl ?_
  show pV Γ _ _ [some (.ref n), some (.int (nI 2))] _ _ _ _ _ _
  refine V_goto (tgt := 24) d_Cl_init_45 (by decide) ?_
  refine V_iload_n d_Cl_init_24 rfl ?_
  refine V_iconst (v := nI 5) d_Cl_init_25 (by decide +kernel) ?_
  refine V_icmp_geN (tgt := 48) d_Cl_init_26 (by decide) (by omega) (by omega) (fun h => absurd h (by omega)) (fun _ => ?_)
  refine V_aload_n d_Cl_init_29 rfl ?_
  refine V_getf d_Cl_init_30 f_Cl_11 h1 rfl ?_
  refine V_iload_n d_Cl_init_33 rfl ?_
  refine V_new d_Cl_init_34 n_Cl_9 (by rfl) (by rfl) (fun G11 hn11 ho11 => ?_)
  have hn11 : G11 (n + 8) = some (.inr (kFr, [.int 0, .int 0, .null, .int 0, .int 0])) := hn11
  show pV Γ _ _ _ (.ref (n + 8) :: _) (n + 9) _ _ _ _
  have h1 := (ho11 _ (by omega)).trans h1
  have hn1 := (ho11 _ (by omega)).trans hn1
  have hx0 := hx0.kept (fun q g1 g2 => ho11 q (by omega))
  have hx1 := hx1.kept (fun q g1 g2 => ho11 q (by omega))
  refine V_dup d_Cl_init_37 rfl ?_
  refine V_callI (As := []) (rest := [.ref (n + 8), .int (nI 2), .ref (n + 1)]) (lo' := [some (.ref (n + 8))]) (bc1 := 2) (bs1 := 20) (bc' := 6) (bs' := 50) d_Cl_init_38 k_Cl_init_24 rfl rfl rfl rfl (by rfl) (by rfl) ?_
  refine c_Fr_init hn11 (fun G12 hf2 ho12 => ?_)
  have h1 := (ho12 _ (by omega)).trans h1
  have hn1 := (ho12 _ (by omega)).trans hn1
  have hx0 := hx0.kept (fun q g1 g2 => ho12 q (by omega))
  have hx1 := hx1.kept (fun q g1 g2 => ho12 q (by omega))
  obtain ⟨_, _, _, _, _, _, hx2⟩ := hf2
  show pV Γ m_Cl_init 41 [some (.ref n), some (.int (nI 2))] [.ref (n + 8), .int (nI 2), .ref (n + 1)] (n + 11) G12 6 50 Q
  refine V_aastore (ci := 6) (j := 2) d_Cl_init_41 rfl rfl hn1 hx2.1 rfl (by omega) (by omega) (fun G13 hn1z ho13 => ?_)
  have hn1 := hn1z
  have h1 := (ho13 _ (by omega)).trans h1
  have hx0 := hx0.kept (fun q g1 g2 => ho13 q (by omega))
  have hx1 := hx1.kept (fun q g1 g2 => ho13 q (by omega))
  have hx2 := hx2.kept (fun q g1 g2 => ho13 q (by omega))
  refine V_iincN d_Cl_init_42 rfl ?_
  show pV Γ _ _ [some (.ref n), some (.int (nI 3))] _ _ _ _ _ _
  refine V_goto (tgt := 24) d_Cl_init_45 (by decide) ?_
  refine V_iload_n d_Cl_init_24 rfl ?_
  refine V_iconst (v := nI 5) d_Cl_init_25 (by decide +kernel) ?_
  refine V_icmp_geN (tgt := 48) d_Cl_init_26 (by decide) (by omega) (by omega) (fun h => absurd h (by omega)) (fun _ => ?_)
  refine V_aload_n d_Cl_init_29 rfl ?_
  refine V_getf d_Cl_init_30 f_Cl_11 h1 rfl ?_
  refine V_iload_n d_Cl_init_33 rfl ?_
  refine V_new d_Cl_init_34 n_Cl_9 (by rfl) (by rfl) (fun G14 hn14 ho14 => ?_)
  have hn14 : G14 (n + 11) = some (.inr (kFr, [.int 0, .int 0, .null, .int 0, .int 0])) := hn14
  show pV Γ _ _ _ (.ref (n + 11) :: _) (n + 12) _ _ _ _
  have h1 := (ho14 _ (by omega)).trans h1
  have hn1 := (ho14 _ (by omega)).trans hn1
  have hx0 := hx0.kept (fun q g1 g2 => ho14 q (by omega))
  have hx1 := hx1.kept (fun q g1 g2 => ho14 q (by omega))
  have hx2 := hx2.kept (fun q g1 g2 => ho14 q (by omega))
  refine V_dup d_Cl_init_37 rfl ?_
  refine V_callI (As := []) (rest := [.ref (n + 11), .int (nI 3), .ref (n + 1)]) (lo' := [some (.ref (n + 11))]) (bc1 := 2) (bs1 := 20) (bc' := 3) (bs' := 25) d_Cl_init_38 k_Cl_init_24 rfl rfl rfl rfl (by rfl) (by rfl) ?_
  refine c_Fr_init hn14 (fun G15 hf3 ho15 => ?_)
  have h1 := (ho15 _ (by omega)).trans h1
  have hn1 := (ho15 _ (by omega)).trans hn1
  have hx0 := hx0.kept (fun q g1 g2 => ho15 q (by omega))
  have hx1 := hx1.kept (fun q g1 g2 => ho15 q (by omega))
  have hx2 := hx2.kept (fun q g1 g2 => ho15 q (by omega))
  obtain ⟨_, _, _, _, _, _, hx3⟩ := hf3
  show pV Γ m_Cl_init 41 [some (.ref n), some (.int (nI 3))] [.ref (n + 11), .int (nI 3), .ref (n + 1)] (n + 14) G15 3 25 Q
  refine V_aastore (ci := 6) (j := 3) d_Cl_init_41 rfl rfl hn1 hx3.1 rfl (by omega) (by omega) (fun G16 hn1z ho16 => ?_)
  have hn1 := hn1z
  have h1 := (ho16 _ (by omega)).trans h1
  have hx0 := hx0.kept (fun q g1 g2 => ho16 q (by omega))
  have hx1 := hx1.kept (fun q g1 g2 => ho16 q (by omega))
  have hx2 := hx2.kept (fun q g1 g2 => ho16 q (by omega))
  have hx3 := hx3.kept (fun q g1 g2 => ho16 q (by omega))
  refine V_iincN d_Cl_init_42 rfl ?_
  show pV Γ _ _ [some (.ref n), some (.int (nI 4))] _ _ _ _ _ _
  refine V_goto (tgt := 24) d_Cl_init_45 (by decide) ?_
  refine V_iload_n d_Cl_init_24 rfl ?_
  refine V_iconst (v := nI 5) d_Cl_init_25 (by decide +kernel) ?_
  refine V_icmp_geN (tgt := 48) d_Cl_init_26 (by decide) (by omega) (by omega) (fun h => absurd h (by omega)) (fun _ => ?_)
  refine V_aload_n d_Cl_init_29 rfl ?_
  refine V_getf d_Cl_init_30 f_Cl_11 h1 rfl ?_
  refine V_iload_n d_Cl_init_33 rfl ?_
  refine V_new d_Cl_init_34 n_Cl_9 (by rfl) (by rfl) (fun G17 hn17 ho17 => ?_)
  have hn17 : G17 (n + 14) = some (.inr (kFr, [.int 0, .int 0, .null, .int 0, .int 0])) := hn17
  show pV Γ _ _ _ (.ref (n + 14) :: _) (n + 15) _ _ _ _
  have h1 := (ho17 _ (by omega)).trans h1
  have hn1 := (ho17 _ (by omega)).trans hn1
  have hx0 := hx0.kept (fun q g1 g2 => ho17 q (by omega))
  have hx1 := hx1.kept (fun q g1 g2 => ho17 q (by omega))
  have hx2 := hx2.kept (fun q g1 g2 => ho17 q (by omega))
  have hx3 := hx3.kept (fun q g1 g2 => ho17 q (by omega))
  refine V_dup d_Cl_init_37 rfl ?_
  refine V_callI (As := []) (rest := [.ref (n + 14), .int (nI 4), .ref (n + 1)]) (lo' := [some (.ref (n + 14))]) (bc1 := 2) (bs1 := 20) (bc' := 0) (bs' := 0) d_Cl_init_38 k_Cl_init_24 rfl rfl rfl rfl (by rfl) (by rfl) ?_
  refine c_Fr_init hn17 (fun G18 hf4 ho18 => ?_)
  have h1 := (ho18 _ (by omega)).trans h1
  have hn1 := (ho18 _ (by omega)).trans hn1
  have hx0 := hx0.kept (fun q g1 g2 => ho18 q (by omega))
  have hx1 := hx1.kept (fun q g1 g2 => ho18 q (by omega))
  have hx2 := hx2.kept (fun q g1 g2 => ho18 q (by omega))
  have hx3 := hx3.kept (fun q g1 g2 => ho18 q (by omega))
  obtain ⟨_, _, _, _, _, _, hx4⟩ := hf4
  show pV Γ m_Cl_init 41 [some (.ref n), some (.int (nI 4))] [.ref (n + 14), .int (nI 4), .ref (n + 1)] (n + 17) G18 0 0 Q
  refine V_aastore (ci := 6) (j := 4) d_Cl_init_41 rfl rfl hn1 hx4.1 rfl (by omega) (by omega) (fun G19 hn1z ho19 => ?_)
  have hn1 := hn1z
  have h1 := (ho19 _ (by omega)).trans h1
  have hx0 := hx0.kept (fun q g1 g2 => ho19 q (by omega))
  have hx1 := hx1.kept (fun q g1 g2 => ho19 q (by omega))
  have hx2 := hx2.kept (fun q g1 g2 => ho19 q (by omega))
  have hx3 := hx3.kept (fun q g1 g2 => ho19 q (by omega))
  have hx4 := hx4.kept (fun q g1 g2 => ho19 q (by omega))
  refine V_iincN d_Cl_init_42 rfl ?_
  show pV Γ _ _ [some (.ref n), some (.int (nI 5))] _ _ _ _ _ _
  refine V_goto (tgt := 24) d_Cl_init_45 (by decide) ?_
  refine V_iload_n d_Cl_init_24 rfl ?_
  refine V_iconst (v := nI 5) d_Cl_init_25 (by decide +kernel) ?_
  refine V_icmp_geN (tgt := 48) d_Cl_init_26 (by decide) (by omega) (by omega) (fun _ => ?_) (fun h => absurd h (by omega))
  refine V_return d_Cl_init_48 rfl (hQ G19 ⟨Nat.zero_le _, h1, ⟨_, hn1, fun j hj => ?_⟩, fun j hj => ?_, fun j hj => absurd hj (Nat.not_lt_zero j)⟩ (fun q hq => by rw [ho19 q (by omega), ho18 q (by omega), ho17 q (by omega), ho16 q (by omega), ho15 q (by omega), ho14 q (by omega), ho13 q (by omega), ho12 q (by omega), ho11 q (by omega), ho10 q (by omega), ho9 q (by omega), ho8 q (by omega), ho7 q (by omega), ho6 q (by omega), ho5 q (by omega), ho4 q (by omega), ho3 q (by omega), ho2 q (by omega), ho1 q (by omega)]))
  · match j, hj with
    | 0, _ => rfl
    | 1, _ => rfl
    | 2, _ => rfl
    | 3, _ => rfl
    | 4, _ => rfl
    | k + 5, h => exact absurd h (by omega)
  · match j, hj with
    | 0, _ => exact ⟨_, _, _, _, _, _, hx0⟩
    | 1, _ => exact ⟨_, _, _, _, _, _, hx1⟩
    | 2, _ => exact ⟨_, _, _, _, _, _, hx2⟩
    | 3, _ => exact ⟨_, _, _, _, _, _, hx3⟩
    | 4, _ => exact ⟨_, _, _, _, _, _, hx4⟩
    | k + 5, h => exact absurd h (by omega)
set_option maxHeartbeats 1000000 in
theorem c_Cl_enter {Γ : pmE} {G : pmG} {n : Nat} {Q : pmPost} {a s0 lo hi : Nat} {t : Thr} {f : Nat → Option Nat} {ld : LdS} {x y : Int32} (h : isCl G a t) (s : isSh G s0 f ld lo hi) (ha : a + 17 ≤ lo) (hN : pEnt ld t x y = none → Q (some (.int (nI 0))) n G) (hS : ∀ t', pEnt ld t x y = some t' → ∀ G', isCl G' a t' → (∀ q, (q < a ∨ a + 17 ≤ q) → G' q = G q) → Q (some (.int (nI 1))) n G') : pV Γ m_Cl_enter 0 [some (.ref a), some (.int x), some (.int y), some (.ref s0), none, none] [] n G 0 0 Q := by
  obtain ⟨dp, fr, res⟩ := t
  obtain ⟨h0, h1, ⟨f, h2, h3⟩, h4, h5⟩ := h
  have h0 : dp ≤ 5 := h0
  have h1 : G a = some (.inr (kCl, [.ref (a + 1), .int (nI dp), .int res])) := h1
  refine V_aload_n d_Cl_enter_0 rfl ?_
  refine V_iload_n d_Cl_enter_1 rfl ?_
  refine V_callV (As := [.int x]) (rest := []) (lo' := [some (.ref s0), some (.int x)]) (bc1 := 0) (bs1 := 0) (bc' := 0) (bs' := 0) d_Cl_enter_2 k_Cl_enter_25 s.1 rfl rfl rfl rfl (by rfl) (by rfl) ?_
  refine c_Sh_find s (fun hn => ?_) (fun c L b hc hx hl hf hlo hhi hL => ?_)
  · show pV Γ m_Cl_enter 5 [some (.ref a), some (.int x), some (.int y), some (.ref s0), none, none] [.null] _ G 0 0 Q
    refine V_astoreN d_Cl_enter_5 (Nat.le_of_ble_eq_true rfl) ?_
    show pV Γ _ _ [some (.ref a), some (.int x), some (.int y), some (.ref s0), some (.null), none] _ _ _ _ _ _
    refine V_aload_n d_Cl_enter_7 rfl ?_
    refine V_getf d_Cl_enter_8 f_Cl_17 h1 rfl ?_
    refine V_iconst (v := nI 5) d_Cl_enter_11 (by decide +kernel) ?_
    refine V_icmp_geN (tgt := 20) d_Cl_enter_12 (by decide) (by omega) (by omega) (fun hb12 => ?_) (fun hb12 => ?_)
    · refine V_iconst (v := nI 0) d_Cl_enter_20 (by decide +kernel) ?_
      exact V_zreturn d_Cl_enter_21 rfl (by first | exact pB_or _ | exact Or.inl rfl | exact Or.inr rfl) (hN (by unfold pEnt; first | rw [if_neg (by show ¬ dp < 5; omega)] | (rw [if_pos (show dp < 5 by omega), ldx_none hn]; rfl)))
    · refine V_aloadN d_Cl_enter_15 rfl ?_
      refine V_ifnonnullN d_Cl_enter_17 ?_
      refine V_iconst (v := nI 0) d_Cl_enter_20 (by decide +kernel) ?_
      exact V_zreturn d_Cl_enter_21 rfl (by first | exact pB_or _ | exact Or.inl rfl | exact Or.inr rfl) (hN (by unfold pEnt; first | rw [if_neg (by show ¬ dp < 5; omega)] | (rw [if_pos (show dp < 5 by omega), ldx_none hn]; rfl)))
  · obtain ⟨l1, l2, l3⟩ := hL
    have hm4 := l2.1.2.2.1
    show pV Γ m_Cl_enter 5 [some (.ref a), some (.int x), some (.int y), some (.ref s0), none, none] [.ref b] _ G 0 0 Q
    refine V_astore d_Cl_enter_5 (Nat.le_of_ble_eq_true rfl) ?_
    show pV Γ _ _ [some (.ref a), some (.int x), some (.int y), some (.ref s0), some (.ref b), none] _ _ _ _ _ _
    refine V_aload_n d_Cl_enter_7 rfl ?_
    refine V_getf d_Cl_enter_8 f_Cl_17 h1 rfl ?_
    refine V_iconst (v := nI 5) d_Cl_enter_11 (by decide +kernel) ?_
    refine V_icmp_geN (tgt := 20) d_Cl_enter_12 (by decide) (by omega) (by omega) (fun hb12 => ?_) (fun hb12 => ?_)
    · refine V_iconst (v := nI 0) d_Cl_enter_20 (by decide +kernel) ?_
      exact V_zreturn d_Cl_enter_21 rfl (by first | exact pB_or _ | exact Or.inl rfl | exact Or.inr rfl) (hN (by unfold pEnt; first | rw [if_neg (by show ¬ dp < 5; omega)] | (rw [if_pos (show dp < 5 by omega), ldx_none hn]; rfl)))
    · refine V_aload d_Cl_enter_15 rfl ?_
      refine V_ifnonnull (tgt := 22) d_Cl_enter_17 (by decide) ?_
      refine V_aload d_Cl_enter_22 rfl ?_
      refine V_getf d_Cl_enter_24 f_Cl_31 l1 rfl ?_
      refine V_iload_n d_Cl_enter_27 rfl ?_
      refine V_callV (As := [.int y]) (rest := []) (lo' := [some (.ref (b + 1)), some (.int y), none]) (bc1 := 0) (bs1 := 0) (bc' := 0) (bs' := 0) d_Cl_enter_28 k_Cl_enter_37 l2.2.1 rfl rfl rfl rfl (by rfl) (by rfl) ?_
      refine c_Df_findMethod l2 (fun hm => ?_) (fun k hk he hfk => ?_)
      · show pV Γ m_Cl_enter 31 [some (.ref a), some (.int x), some (.int y), some (.ref s0), some (.ref b), none] [.null] _ G 0 0 Q
        refine V_astoreN d_Cl_enter_31 (Nat.le_of_ble_eq_true rfl) ?_
        show pV Γ _ _ [some (.ref a), some (.int x), some (.int y), some (.ref s0), some (.ref b), some (.null)] _ _ _ _ _ _
        refine V_aloadN d_Cl_enter_33 rfl ?_
        refine V_ifnonnullN d_Cl_enter_35 ?_
        refine V_iconst (v := nI 0) d_Cl_enter_38 (by decide +kernel) ?_
        exact V_zreturn d_Cl_enter_39 rfl (by first | exact pB_or _ | exact Or.inl rfl | exact Or.inr rfl) (hN (by unfold pEnt; rw [if_pos (show dp < 5 by omega), ldx_some hc hx hl]; show (pFind L.2.1 y).map _ = none; rw [pFind_none hm]; rfl))
      · obtain ⟨m1, m2⟩ := l2.2.2.2.2.2.2.2 k hk
        show pV Γ m_Cl_enter 31 [some (.ref a), some (.int x), some (.int y), some (.ref s0), some (.ref b), none] [.ref (b + 1 + 5 + 3 * k)] _ G 0 0 Q
        refine V_astore d_Cl_enter_31 (Nat.le_of_ble_eq_true rfl) ?_
        show pV Γ _ _ [some (.ref a), some (.int x), some (.int y), some (.ref s0), some (.ref b), some (.ref (b + 1 + 5 + 3 * k))] _ _ _ _ _ _
        refine V_aload d_Cl_enter_33 rfl ?_
        refine V_ifnonnull (tgt := 40) d_Cl_enter_35 (by decide) ?_
        refine V_aload_n d_Cl_enter_40 rfl ?_
        refine V_getf d_Cl_enter_41 f_Cl_11 h1 rfl ?_
        refine V_aload_n d_Cl_enter_44 rfl ?_
        refine V_getf d_Cl_enter_45 f_Cl_17 h1 rfl ?_
        refine V_aaload (j := dp) d_Cl_enter_48 rfl h2 rfl (by omega) (by omega) ?_
        rw [h3 dp (by omega)]
        show pV Γ _ _ _ (.ref (a + 2 + 3 * dp) :: _) _ _ _ _ _
        refine V_iload_n d_Cl_enter_49 rfl ?_
        refine V_aload d_Cl_enter_50 rfl ?_
        refine V_getf d_Cl_enter_52 f_Cl_43 l1 rfl ?_
        refine V_aload d_Cl_enter_55 rfl ?_
        refine V_getf d_Cl_enter_57 f_Cl_46 m1 rfl ?_
        have hfr : ∃ fs, G (a + 2 + 3 * dp) = some (.inr (kFr, fs)) := by
          obtain ⟨_, _, _, _, _, _, z⟩ := h4 dp (by omega)
          exact ⟨_, z.1⟩
        obtain ⟨fs, hfr⟩ := hfr
        refine V_callV (As := [.int x, .int (nI L.1), .ref (b + 1 + 5 + 3 * k + 1)]) (rest := []) (lo' := [some (.ref (a + 2 + 3 * dp)), some (.int x), some (.int (nI L.1)), some (.ref (b + 1 + 5 + 3 * k + 1))]) (bc1 := 0) (bs1 := 0) (bc' := 0) (bs' := 0) d_Cl_enter_60 k_Cl_enter_52 hfr rfl rfl rfl rfl (by rfl) (by rfl) ?_
        refine c_Fr_begin (h4 dp (by omega)) m2 (by omega) (fun G1 hF ho1 => ?_)
        have h1 := (ho1 _ (by omega)).trans h1
        show pV Γ m_Cl_enter 63 [some (.ref a), some (.int x), some (.int y), some (.ref s0), some (.ref b), some (.ref (b + 1 + 5 + 3 * k))] [] _ G1 0 0 Q
        refine V_aload_n d_Cl_enter_63 rfl ?_
        refine V_dup d_Cl_enter_64 rfl ?_
        refine V_getf d_Cl_enter_65 f_Cl_17 h1 rfl ?_
        refine V_iconst (v := nI 1) d_Cl_enter_68 (by decide +kernel) ?_
        refine V_iaddN d_Cl_enter_69 ?_
        refine V_putf d_Cl_enter_70 f_Cl_17 p_Cl_17 h1 rfl rfl rfl (fun G2 h1z ho2 => ?_)
        have h1 : G2 a = some (.inr (kCl, [.ref (a + 1), .int (nI (dp + 1)), .int res])) := h1z
        refine V_iconst (v := nI 1) d_Cl_enter_73 (by decide +kernel) ?_
        have hE : ∀ q, (q ≠ a ∧ (q < a + 2 + 3 * dp ∨ a + 2 + 3 * dp + 3 ≤ q)) → G2 q = G q := fun q g => by rw [ho2 q (by omega), ho1 q (by omega)]
        refine V_zreturn d_Cl_enter_74 rfl (by first | exact pB_or _ | exact Or.inl rfl | exact Or.inr rfl) (hS (dp + 1, va_up fr dp (x, nI L.1, dL L.2.1 k, dC L.2.1 k, 0, nI 0), res) (by unfold pEnt; rw [if_pos (show dp < 5 by omega), ldx_some hc hx hl]; show (pFind L.2.1 y).map _ = _; rw [pFind_some hm4 ⟨hk, he, hfk⟩]; rfl) G2 ⟨by show dp + 1 ≤ 5; omega, h1, ⟨f, by rw [hE _ (by omega)]; exact h2, h3⟩, fun j hj => ?_, fun j hj => ?_⟩ (fun q hq => by rw [ho2 q (by omega), ho1 q (by omega)]))
        · by_cases e : j = dp
          · rw [e]; exact ⟨_, _, _, _, _, _, hF.kept fun q g1 g2 => ho2 q (by omega)⟩
          · exact (h4 j hj).kept fun q g1 g2 => hE q (by omega)
        · have hj' : j < dp + 1 := hj
          show isFm G2 _ (va_up fr dp _ j)
          by_cases e : j = dp
          · rw [e, va_up_self]; exact ⟨hF.kept fun q g1 g2 => ho2 q (by omega), Nat.zero_le _⟩
          · rw [va_up_ne _ _ e]; exact (h5 j (by show j < dp; omega)).kept fun q g1 g2 => hE q (by omega)
set_option maxHeartbeats 1000000 in
theorem c_Cl_leave {Γ : pmE} {G : pmG} {n : Nat} {Q : pmPost} {a dp : Nat} {fr : Nat → Frm} {res x : Int32} (h : isCl G a (dp + 1, fr, res)) (hF : dp = 0 → ∀ G', isCl G' a (0, fr, x) → (∀ q, (q < a ∨ a + 17 ≤ q) → G' q = G q) → Q none n G') (hS : 0 < dp → ∀ G', isCl G' a (dp, va_up fr (dp - 1) (fAdd (fr (dp - 1)) x), res) → (∀ q, (q < a ∨ a + 17 ≤ q) → G' q = G q) → Q none n G') : pV Γ m_Cl_leave 0 [some (.ref a), some (.int x)] [] n G 0 0 Q := by
  obtain ⟨h0, h1, ⟨f, h2, h3⟩, h4, h5⟩ := h
  have h0 : dp + 1 ≤ 5 := h0
  have h1 : G a = some (.inr (kCl, [.ref (a + 1), .int (nI (dp + 1)), .int res])) := h1
  refine V_aload_n d_Cl_leave_0 rfl ?_
  refine V_dup d_Cl_leave_1 rfl ?_
  refine V_getf d_Cl_leave_2 f_Cl_17 h1 rfl ?_
  refine V_iconst (v := nI 1) d_Cl_leave_5 (by decide +kernel) ?_
  refine V_isubN d_Cl_leave_6 (by omega) ?_
  rw [Nat.add_sub_cancel]
  refine V_putf d_Cl_leave_7 f_Cl_17 p_Cl_17 h1 rfl rfl rfl (fun G1 h1z ho1 => ?_)
  have h1 : G1 a = some (.inr (kCl, [.ref (a + 1), .int (nI dp), .int res])) := h1z
  have h2 := (ho1 _ (by omega)).trans h2
  refine V_aload_n d_Cl_leave_10 rfl ?_
  refine V_getf d_Cl_leave_11 f_Cl_17 h1 rfl ?_
  refine V_if_neN (tgt := 25) d_Cl_leave_14 (by decide) (by omega) (fun hb14 => ?_) (fun hb14 => ?_)
  · refine V_aload_n d_Cl_leave_25 rfl ?_
    refine V_getf d_Cl_leave_26 f_Cl_11 h1 rfl ?_
    refine V_aload_n d_Cl_leave_29 rfl ?_
    refine V_getf d_Cl_leave_30 f_Cl_17 h1 rfl ?_
    refine V_iconst (v := nI 1) d_Cl_leave_33 (by decide +kernel) ?_
    refine V_isubN d_Cl_leave_34 (by omega) ?_
    refine V_aaload (j := dp - 1) d_Cl_leave_35 rfl h2 rfl (by omega) (by omega) ?_
    rw [h3 (dp - 1) (by omega)]
    obtain ⟨⟨e1, e2⟩, e3⟩ := (h5 (dp - 1) (by show dp - 1 < dp + 1; omega)).kept (fun q g1 g2 => ho1 q (by omega))
    show pV Γ _ _ _ (.ref (a + 2 + 3 * (dp - 1)) :: _) _ _ _ _ _
    refine V_dup d_Cl_leave_36 rfl ?_
    refine V_getf d_Cl_leave_37 f_Cl_65 e1 rfl ?_
    refine V_iload_n d_Cl_leave_40 rfl ?_
    refine V_iadd d_Cl_leave_41 ?_
    refine V_putf d_Cl_leave_42 f_Cl_65 p_Cl_65 e1 rfl rfl rfl (fun G2 e1z ho2 => ?_)
    have e1 : G2 (a + 2 + 3 * (dp - 1)) = some (.inr (kFr, [.int ((fr (dp - 1)).1), .int ((fr (dp - 1)).2.1), .ref (a + 2 + 3 * (dp - 1) + 1), .int (nI ((fr (dp - 1)).2.2.2.2.1)), .int ((fr (dp - 1)).2.2.2.2.2 + x)])) := e1z
    have h1 := (ho2 _ (by omega)).trans h1
    have h2 := (ho2 _ (by omega)).trans h2
    have e2 := e2.kept (fun q g1 g2 => ho2 q (by omega))
    exact V_return d_Cl_leave_45 rfl (hS (by omega) G2 ⟨by show dp ≤ 5; omega, h1, ⟨f, h2, h3⟩, fun j hj => by
  by_cases e : j = dp - 1
  · rw [e]; exact ⟨_, _, _, _, _, _, e1, e2⟩
  · exact (h4 j hj).kept fun q g1 g2 => by rw [ho2 q (by omega), ho1 q (by omega)], fun j hj => by
  have hj' : j < dp := hj
  show isFm G2 _ (va_up fr (dp - 1) _ j)
  by_cases e : j = dp - 1
  · rw [e, va_up_self]; exact ⟨⟨e1, e2⟩, e3⟩
  · rw [va_up_ne _ _ e]; exact (h5 j (by show j < dp + 1; omega)).kept fun q g1 g2 => by rw [ho2 q (by omega), ho1 q (by omega)]⟩ (fun q hq => by rw [ho2 q (by omega), ho1 q (by omega)]))
  · refine V_aload_n d_Cl_leave_17 rfl ?_
    refine V_iload_n d_Cl_leave_18 rfl ?_
    refine V_putf d_Cl_leave_19 f_Cl_21 p_Cl_21 h1 rfl rfl rfl (fun G2 h1z ho2 => ?_)
    have h1 : G2 a = some (.inr (kCl, [.ref (a + 1), .int (nI dp), .int x])) := h1z
    have h2 := (ho2 _ (by omega)).trans h2
    refine V_goto (tgt := 45) d_Cl_leave_22 (by decide) ?_
    exact V_return d_Cl_leave_45 rfl (hF (by omega) G2 ⟨Nat.zero_le _, (by rw [hb14] at h1; exact h1), ⟨f, h2, h3⟩, fun j hj => (h4 j hj).kept fun q g1 g2 => by rw [ho2 q (by omega), ho1 q (by omega)], fun j hj => absurd hj (Nat.not_lt_zero j)⟩ (fun q hq => by rw [ho2 q (by omega), ho1 q (by omega)]))
set_option maxHeartbeats 1000000 in
theorem c_Cl_advance {Γ : pmE} {G : pmG} {n : Nat} {Q : pmPost} {a s0 lo hi : Nat} {t : Thr} {f : Nat → Option Nat} {ld : LdS} (h : isCl G a t) (hp : 0 < t.1) (s : isSh G s0 f ld lo hi) (ha : a + 17 ≤ lo) (hs : s0 + 2 ≤ a ∨ a + 17 ≤ s0) (hQ : ∀ G', isCl G' a (pStep ld t) → (∀ q, (q < a ∨ a + 17 ≤ q) → G' q = G q) → Q none n G') : pV Γ m_Cl_advance 0 [some (.ref a), some (.ref s0), none, none] [] n G 0 0 Q := by
  obtain ⟨dp, fr, res⟩ := t
  have hC := h
  obtain ⟨h0, h1, ⟨f, h2, h3⟩, h4, h5⟩ := h
  have h0 : dp ≤ 5 := h0
  have hp : 0 < dp := hp
  have h1 : G a = some (.inr (kCl, [.ref (a + 1), .int (nI dp), .int res])) := h1
  refine V_aload_n d_Cl_advance_0 rfl ?_
  refine V_getf d_Cl_advance_1 f_Cl_17 h1 rfl ?_
  refine V_if_neN (tgt := 8) d_Cl_advance_4 (by decide) (by omega) (fun hb4 => ?_) (fun hb4 => ?_)
  · refine V_aload_n d_Cl_advance_8 rfl ?_
    refine V_getf d_Cl_advance_9 f_Cl_11 h1 rfl ?_
    refine V_aload_n d_Cl_advance_12 rfl ?_
    refine V_getf d_Cl_advance_13 f_Cl_17 h1 rfl ?_
    refine V_iconst (v := nI 1) d_Cl_advance_16 (by decide +kernel) ?_
    refine V_isubN d_Cl_advance_17 (by omega) ?_
    refine V_aaload (j := dp - 1) d_Cl_advance_18 rfl h2 rfl (by omega) (by omega) ?_
    rw [h3 (dp - 1) (by omega)]
    obtain ⟨⟨e1, e2⟩, e3⟩ := h5 (dp - 1) (by show dp - 1 < dp; omega)
    dsimp only at e1 e2 e3
    generalize hFe : fr (dp - 1) = F at e1 e2 e3
    obtain ⟨cl, ed, len, c, pl, sm⟩ := F
    dsimp only at e1 e2 e3
    have hl6 := e2.1
    show pV Γ _ _ _ (.ref (a + 2 + 3 * (dp - 1)) :: _) _ _ _ _ _
    refine V_astore_n d_Cl_advance_19 (Nat.le_of_ble_eq_true rfl) ?_
    show pV Γ _ _ [some (.ref a), some (.ref s0), some (.ref (a + 2 + 3 * (dp - 1))), none] _ _ _ _ _ _
    refine V_aload_n d_Cl_advance_20 rfl ?_
    refine V_getf d_Cl_advance_21 f_Cl_56 e1 rfl ?_
    refine V_aload_n d_Cl_advance_24 rfl ?_
    refine V_getf d_Cl_advance_25 f_Cl_59 e1 rfl ?_
    refine V_getf d_Cl_advance_28 f_Cl_60 e2.2.1 rfl ?_
    refine V_icmp_ltN (tgt := 43) d_Cl_advance_31 (by decide) (by omega) (by omega) (fun hb31 => ?_) (fun hb31 => ?_)
    · refine V_aload_n d_Cl_advance_43 rfl ?_
      refine V_getf d_Cl_advance_44 f_Cl_56 e1 rfl ?_
      refine V_istore_n d_Cl_advance_47 (Nat.le_of_ble_eq_true rfl) ?_
      show pV Γ _ _ [some (.ref a), some (.ref s0), some (.ref (a + 2 + 3 * (dp - 1))), some (.int (nI pl))] _ _ _ _ _ _
      refine V_aload_n d_Cl_advance_48 rfl ?_
      refine V_dup d_Cl_advance_49 rfl ?_
      refine V_getf d_Cl_advance_50 f_Cl_56 e1 rfl ?_
      refine V_iconst (v := nI 1) d_Cl_advance_53 (by decide +kernel) ?_
      refine V_iaddN d_Cl_advance_54 ?_
      refine V_putf d_Cl_advance_55 f_Cl_56 p_Cl_56 e1 rfl rfl rfl (fun G1 e1z ho1 => ?_)
      have e1 : G1 (a + 2 + 3 * (dp - 1)) = some (.inr (kFr, [.int cl, .int ed, .ref (a + 2 + 3 * (dp - 1) + 1), .int (nI (pl + 1)), .int sm])) := e1z
      have h1 := (ho1 _ (by omega)).trans h1
      have h2 := (ho1 _ (by omega)).trans h2
      have s := s.kept (fun q hq => ho1 q (by omega))
      have e2 := e2.kept (fun q g1 g2 => ho1 q (by omega))
      refine V_aload_n d_Cl_advance_58 rfl ?_
      refine V_getf d_Cl_advance_59 f_Cl_59 e1 rfl ?_
      refine V_iload_n d_Cl_advance_62 rfl ?_
      refine V_callV (As := [.int (nI pl)]) (rest := []) (lo' := [some (.ref (a + 2 + 3 * (dp - 1) + 1)), some (.int (nI pl))]) (bc1 := 0) (bs1 := 0) (bc' := 0) (bs' := 0) d_Cl_advance_63 k_Cl_advance_72 e2.2.1 rfl rfl rfl rfl (by rfl) (by rfl) ?_
      refine c_Cd_opAt e2 (by omega) ?_
      show pV Γ m_Cl_advance 66 [some (.ref a), some (.ref s0), some (.ref (a + 2 + 3 * (dp - 1))), some (.int (nI pl))] [.int ((c (pl * 3)))] _ G1 0 0 Q
      refine V_if_ne (tgt := 89) d_Cl_advance_66 (by decide) (fun hb66 => ?_) (fun hb66 => ?_)
      · refine V_aload_n d_Cl_advance_89 rfl ?_
        refine V_aload_n d_Cl_advance_90 rfl ?_
        refine V_getf d_Cl_advance_91 f_Cl_59 e1 rfl ?_
        refine V_iload_n d_Cl_advance_94 rfl ?_
        refine V_callV (As := [.int (nI pl)]) (rest := [.ref a]) (lo' := [some (.ref (a + 2 + 3 * (dp - 1) + 1)), some (.int (nI pl))]) (bc1 := 0) (bs1 := 0) (bc' := 0) (bs' := 0) d_Cl_advance_95 k_Cl_advance_76 e2.2.1 rfl rfl rfl rfl (by rfl) (by rfl) ?_
        refine c_Cd_firstOperandAt e2 (by omega) ?_
        show pV Γ m_Cl_advance 98 [some (.ref a), some (.ref s0), some (.ref (a + 2 + 3 * (dp - 1))), some (.int (nI pl))] [.int ((c (pl * 3 + 1))), .ref a] _ G1 0 0 Q
        refine V_aload_n d_Cl_advance_98 rfl ?_
        refine V_getf d_Cl_advance_99 f_Cl_59 e1 rfl ?_
        refine V_iload_n d_Cl_advance_102 rfl ?_
        refine V_callV (As := [.int (nI pl)]) (rest := [.int ((c (pl * 3 + 1))), .ref a]) (lo' := [some (.ref (a + 2 + 3 * (dp - 1) + 1)), some (.int (nI pl))]) (bc1 := 0) (bs1 := 0) (bc' := 0) (bs' := 0) d_Cl_advance_103 k_Cl_advance_79 e2.2.1 rfl rfl rfl rfl (by rfl) (by rfl) ?_
        refine c_Cd_secondOperandAt e2 (by omega) ?_
        show pV Γ m_Cl_advance 106 [some (.ref a), some (.ref s0), some (.ref (a + 2 + 3 * (dp - 1))), some (.int (nI pl))] [.int ((c (pl * 3 + 2))), .int ((c (pl * 3 + 1))), .ref a] _ G1 0 0 Q
        refine V_aload_n d_Cl_advance_106 rfl ?_
        have hC1 : isCl G1 a (dp, va_up fr (dp - 1) (cl, ed, len, c, pl + 1, sm), res) := hC.frm (by omega) ⟨⟨e1, e2⟩, by show pl + 1 ≤ len; omega⟩ (fun q hq => ho1 q (by omega))
        refine V_callV (As := [.int ((c (pl * 3 + 1))), .int ((c (pl * 3 + 2))), .ref s0]) (rest := []) (lo' := [some (.ref a), some (.int ((c (pl * 3 + 1)))), some (.int ((c (pl * 3 + 2)))), some (.ref s0), none, none]) (bc1 := 0) (bs1 := 0) (bc' := 0) (bs' := 0) d_Cl_advance_107 k_Cl_advance_82 h1 rfl rfl rfl rfl (by rfl) (by rfl) ?_
        refine c_Cl_enter hC1 s ha (fun hn => ?_) (fun t' hn G2 hC2 ho2 => ?_)
        · show pV Γ m_Cl_advance 110 [some (.ref a), some (.ref s0), some (.ref (a + 2 + 3 * (dp - 1))), some (.int (nI pl))] [.int (nI 0)] _ G1 0 0 Q
          refine V_pop d_Cl_advance_110 rfl ?_
          refine V_return d_Cl_advance_111 rfl (hQ G1 ?_ (fun q hq => ho1 q (by omega)))
          unfold pStep
          dsimp only
          rw [hFe]
          dsimp only
          rw [if_neg (show ¬ len ≤ pl by omega)]
          rw [if_neg hb66]
          unfold fNext
          dsimp only
          rw [hn]
          exact hC1
        · show pV Γ m_Cl_advance 110 [some (.ref a), some (.ref s0), some (.ref (a + 2 + 3 * (dp - 1))), some (.int (nI pl))] [.int (nI 1)] _ G2 0 0 Q
          refine V_pop d_Cl_advance_110 rfl ?_
          refine V_return d_Cl_advance_111 rfl (hQ G2 ?_ (fun q hq => by rw [ho2 q hq, ho1 q (by omega)]))
          unfold pStep
          dsimp only
          rw [hFe]
          dsimp only
          rw [if_neg (show ¬ len ≤ pl by omega)]
          rw [if_neg hb66]
          unfold fNext
          dsimp only
          rw [hn]
          exact hC2
      · refine V_aload_n d_Cl_advance_69 rfl ?_
        refine V_dup d_Cl_advance_70 rfl ?_
        refine V_getf d_Cl_advance_71 f_Cl_65 e1 rfl ?_
        refine V_aload_n d_Cl_advance_74 rfl ?_
        refine V_getf d_Cl_advance_75 f_Cl_59 e1 rfl ?_
        refine V_iload_n d_Cl_advance_78 rfl ?_
        refine V_callV (As := [.int (nI pl)]) (rest := [.int sm, .ref (a + 2 + 3 * (dp - 1))]) (lo' := [some (.ref (a + 2 + 3 * (dp - 1) + 1)), some (.int (nI pl))]) (bc1 := 0) (bs1 := 0) (bc' := 0) (bs' := 0) d_Cl_advance_79 k_Cl_advance_76 e2.2.1 rfl rfl rfl rfl (by rfl) (by rfl) ?_
        refine c_Cd_firstOperandAt e2 (by omega) ?_
        show pV Γ m_Cl_advance 82 [some (.ref a), some (.ref s0), some (.ref (a + 2 + 3 * (dp - 1))), some (.int (nI pl))] [.int ((c (pl * 3 + 1))), .int sm, .ref (a + 2 + 3 * (dp - 1))] _ G1 0 0 Q
        refine V_iadd d_Cl_advance_82 ?_
        refine V_putf d_Cl_advance_83 f_Cl_65 p_Cl_65 e1 rfl rfl rfl (fun G2 e1z ho2 => ?_)
        have e1 : G2 (a + 2 + 3 * (dp - 1)) = some (.inr (kFr, [.int cl, .int ed, .ref (a + 2 + 3 * (dp - 1) + 1), .int (nI (pl + 1)), .int (sm + (c (pl * 3 + 1)))])) := e1z
        have h1 := (ho2 _ (by omega)).trans h1
        have h2 := (ho2 _ (by omega)).trans h2
        have s := s.kept (fun q hq => ho2 q (by omega))
        have e2 := e2.kept (fun q g1 g2 => ho2 q (by omega))
        refine V_goto (tgt := 111) d_Cl_advance_86 (by decide) ?_
        refine V_return d_Cl_advance_111 rfl (hQ G2 ?_ (fun q hq => by rw [ho2 q (by omega), ho1 q (by omega)]))
        unfold pStep
        dsimp only
        rw [hFe]
        dsimp only
        rw [if_neg (show ¬ len ≤ pl by omega)]
        rw [if_pos hb66]
        exact hC.frm (by omega) ⟨⟨e1, e2⟩, by show pl + 1 ≤ len; omega⟩ (fun q hq => by rw [ho2 q (by omega), ho1 q (by omega)])
    · refine V_aload_n d_Cl_advance_34 rfl ?_
      refine V_aload_n d_Cl_advance_35 rfl ?_
      refine V_getf d_Cl_advance_36 f_Cl_65 e1 rfl ?_
      obtain ⟨dp, rfl⟩ : ∃ d, dp = d + 1 := ⟨dp - 1, by omega⟩
      rw [Nat.add_sub_cancel] at hFe
      refine V_callV (As := [.int sm]) (rest := []) (lo' := [some (.ref a), some (.int sm)]) (bc1 := 0) (bs1 := 0) (bc' := 0) (bs' := 0) d_Cl_advance_39 k_Cl_advance_68 h1 rfl rfl rfl rfl (by rfl) (by rfl) ?_
      refine c_Cl_leave hC (fun hz G1 hC1 ho1 => ?_) (fun hz G1 hC1 ho1 => ?_)
      · refine V_return d_Cl_advance_42 rfl (hQ G1 ?_ ho1)
        unfold pStep
        dsimp only
        rw [Nat.add_sub_cancel, hFe, if_pos (show len ≤ pl from hb31)]
        unfold pLv
        dsimp only
        rw [if_pos (show dp + 1 = 1 by omega)]
        subst hz
        rw [hFe]
        exact hC1
      · refine V_return d_Cl_advance_42 rfl (hQ G1 ?_ ho1)
        unfold pStep
        dsimp only
        rw [Nat.add_sub_cancel, hFe, if_pos (show len ≤ pl from hb31)]
        unfold pLv
        dsimp only
        rw [if_neg (show ¬ dp + 1 = 1 by omega), Nat.add_sub_cancel, hFe, show dp + 1 - 2 = dp - 1 by omega]
        exact hC1
  · exact absurd hb4 (by omega)
