/-! The reference over the one state: load, repeat, swap, its making. -/
set_option maxHeartbeats 1000000 in
theorem cm_load {Γ : pmE} {G : pmG} {n : Nat} {Q : pmPost} {m : Nat} {D : Dfn} {ch : Option Nat} {ld : LdS} {trs : Nat → Trf} {nb : Nat} {bt : Nat → Int32 × Dfn} {th : Nat → Thr} {N : Nat} (mo : isMo G m D ch ld trs nb bt th N) (hN : ∀ r, ((pAlone ld (dTr trs D (dP D 1)) ≠ 0 ∧ r = pAlone ld (dTr trs D (dP D 1))) ∨ (pAlone ld (dTr trs D (dP D 1)) = 0 ∧ pCls (dP D 1) = none ∧ r = 5) ∨ (pAlone ld (dTr trs D (dP D 1)) = 0 ∧ (∃ j L, pCls (dP D 1) = some j ∧ ld j = some L) ∧ r = 13)) → ∀ G', isMo G' m D ch ld trs nb bt th N → (∀ q, (q < m ∨ m + 18 ≤ q) → G' q = G q) → Q (some (.int (nI r))) n G') (hS : ∀ j, pAlone ld (dTr trs D (dP D 1)) = 0 → pCls (dP D 1) = some j → ld j = none → ∀ G', isMo G' m D ch (va_up ld j (some (1, dTr trs D (dP D 1), dOr trs D (dP D 1)))) trs nb bt th (N + 1) → (∀ q, (q < m ∨ m + 18 ≤ q) → G' q = G q) → Q (some (.int (nI 0))) n G') : pV Γ m_Mo_load 0 [some (.ref m), none, none] [] n G 0 0 Q := by
  obtain ⟨f, cu, nu, no, co, tk, kd, vl, on, rp, me, dp, fr, fm, pl, sm, rs, ⟨hH, hF, hCu, hNu, hNo, hCo, hTk, hKd, hVl, hOn, hRp, hMe, hDp, hFr, hFm, hPl, hSm, hRs⟩, mD, mL, mT', mB, mH, mU⟩ := mo
  obtain ⟨x, hx0⟩ : ∃ x, x = dP D 1 := ⟨_, rfl⟩
  have ldj : (∃ c, c < 6 ∧ x = nI c ∧ 0 < cu c) → ∃ j L, pCls (dP D 1) = some j ∧ ld j = some L := fun ⟨c, hc, hx, h0⟩ => by
    obtain ⟨L, hl⟩ := (mL.1.pos hc).mp h0
    exact ⟨c, L, by rw [← hx0, hx]; exact pCls_nI c hc, hl⟩
  refine V_aload_n d_Mo_load_0 rfl ?_
  refine V_iconst (v := nI 0) d_Mo_load_1 (by decide +kernel) ?_
  refine V_bipush (v := nI 16) d_Mo_load_2 (by decide +kernel) ?_
  refine V_callV (As := [.int (nI 0), .int (nI 16)]) (rest := []) (lo' := [some (.ref m), some (.int (nI 0)), some (.int (nI 16)), none]) (bc1 := 0) (bs1 := 0) (bc' := 0) (bs' := 0) d_Mo_load_4 k_Mo_load_81 hH rfl rfl rfl rfl (by rfl) (by rfl) ?_
  refine c_Mo_transcribe hH hF (by omega) (by omega) (by omega) (fun G1 g1 hF1 hc1 hx1 ho1 => ?_)
  have hH := (ho1 _ (by omega)).trans hH
  have hCu := (ho1 _ (by omega)).trans hCu
  have hNu := (ho1 _ (by omega)).trans hNu
  have hNo := (ho1 _ (by omega)).trans hNo
  have hCo := (ho1 _ (by omega)).trans hCo
  have hTk := (ho1 _ (by omega)).trans hTk
  have hKd := (ho1 _ (by omega)).trans hKd
  have hVl := (ho1 _ (by omega)).trans hVl
  have hOn := (ho1 _ (by omega)).trans hOn
  have hRp := (ho1 _ (by omega)).trans hRp
  have hMe := (ho1 _ (by omega)).trans hMe
  have hDp := (ho1 _ (by omega)).trans hDp
  have hFr := (ho1 _ (by omega)).trans hFr
  have hFm := (ho1 _ (by omega)).trans hFm
  have hPl := (ho1 _ (by omega)).trans hPl
  have hSm := (ho1 _ (by omega)).trans hSm
  have hRs := (ho1 _ (by omega)).trans hRs
  have hF := hF1
  have R16 : isRow g1 16 D := mD.cpy hc1
  have mD1 : isRow g1 0 D := mD.kept (fun y y1 y2 => hx1 y (by omega))
  show pV Γ m_Mo_load 7 [some (.ref m), none, none] [] _ G1 0 0 Q
  refine V_aload_n d_Mo_load_7 rfl ?_
  refine V_iconst (v := nI 0) d_Mo_load_8 (by decide +kernel) ?_
  refine V_iconst (v := nI 1) d_Mo_load_9 (by decide +kernel) ?_
  refine V_callV (As := [.int (nI 0), .int (nI 1)]) (rest := []) (lo' := [some (.ref m), some (.int (nI 0)), some (.int (nI 1))]) (bc1 := 0) (bs1 := 0) (bc' := 0) (bs' := 0) d_Mo_load_10 k_Mo_load_69 hH rfl rfl rfl rfl (by rfl) (by rfl) ?_
  refine c_Mo_get hH hF (by omega) ?_
  rw [mD1.2.1 1 (by omega), ← hx0]
  show pV Γ m_Mo_load 13 [some (.ref m), none, none] [.int x] _ G1 0 0 Q
  refine V_istore_n d_Mo_load_13 (Nat.le_of_ble_eq_true rfl) ?_
  show pV Γ _ _ [some (.ref m), some (.int x), none] _ _ _ _ _ _
  refine V_aload_n d_Mo_load_14 rfl ?_
  refine V_bipush (v := nI 16) d_Mo_load_15 (by decide +kernel) ?_
  refine V_bipush (v := nI 13) d_Mo_load_17 (by decide +kernel) ?_
  refine V_iload_n d_Mo_load_19 rfl ?_
  refine V_callV (As := [.int (nI 16), .int (nI 13), .int x]) (rest := []) (lo' := [some (.ref m), some (.int (nI 16)), some (.int (nI 13)), some (.int x)]) (bc1 := 0) (bs1 := 0) (bc' := 0) (bs' := 0) d_Mo_load_20 k_Mo_load_134 hH rfl rfl rfl rfl (by rfl) (by rfl) ?_
  refine c_Mo_treat hH hF hTk hKd hVl hOn hRp (by omega) (by omega) (by omega) (fun k hk => (mT' k hk).2.1) R16 (fun G2 g2 hF2 hR2 hS2 hx2 ho2 => ?_)
  have hH := (ho2 _ (by omega)).trans hH
  have hCu := (ho2 _ (by omega)).trans hCu
  have hNu := (ho2 _ (by omega)).trans hNu
  have hNo := (ho2 _ (by omega)).trans hNo
  have hCo := (ho2 _ (by omega)).trans hCo
  have hTk := (ho2 _ (by omega)).trans hTk
  have hKd := (ho2 _ (by omega)).trans hKd
  have hVl := (ho2 _ (by omega)).trans hVl
  have hOn := (ho2 _ (by omega)).trans hOn
  have hRp := (ho2 _ (by omega)).trans hRp
  have hMe := (ho2 _ (by omega)).trans hMe
  have hDp := (ho2 _ (by omega)).trans hDp
  have hFr := (ho2 _ (by omega)).trans hFr
  have hFm := (ho2 _ (by omega)).trans hFm
  have hPl := (ho2 _ (by omega)).trans hPl
  have hSm := (ho2 _ (by omega)).trans hSm
  have hRs := (ho2 _ (by omega)).trans hRs
  have hF := hF2
  rw [mT'.tr] at hR2
  rw [mT'.or] at hS2
  have mL2 : moLs g2 cu nu no co ld := mL.kept (fun y y1 y2 => by rw [hx2 y (by omega), hx1 y (by omega)])
  have hal := pAlone_le ld (dTr trs D x)
  show pV Γ m_Mo_load 23 [some (.ref m), some (.int x), none] [] _ G2 0 0 Q
  refine V_aload_n d_Mo_load_23 rfl ?_
  refine V_bipush (v := nI 16) d_Mo_load_24 (by decide +kernel) ?_
  refine V_callV (As := [.int (nI 16)]) (rest := []) (lo' := [some (.ref m), some (.int (nI 16)), none, none]) (bc1 := 0) (bs1 := 0) (bc' := 0) (bs' := 0) d_Mo_load_26 k_Mo_load_112 hH rfl rfl rfl rfl (by rfl) (by rfl) ?_
  refine c_Mo_plainRules hH hF hCu (by omega) hR2 mL2.1 ?_
  show pV Γ m_Mo_load 29 [some (.ref m), some (.int x), none] [.int (nI (pAlone ld (dTr trs D x)))] _ G2 0 0 Q
  refine V_istore_n d_Mo_load_29 (Nat.le_of_ble_eq_true rfl) ?_
  show pV Γ _ _ [some (.ref m), some (.int x), some (.int (nI (pAlone ld (dTr trs D x))))] _ _ _ _ _ _
  refine V_iload_n d_Mo_load_30 rfl ?_
  refine V_if_leN (tgt := 36) d_Mo_load_31 (by decide) (by omega) (fun hb31 => ?_) (fun hb31 => ?_)
  · refine V_iload_n d_Mo_load_36 rfl ?_
    refine V_if_lt (tgt := 45) d_Mo_load_37 (by decide) (fun hb37 => ?_) (fun hb37 => ?_)
    · refine V_iconst (v := nI 5) d_Mo_load_45 (by decide +kernel) ?_
      exact V_ireturn d_Mo_load_46 rfl (hN 5 (Or.inr (Or.inl ⟨by rw [← hx0]; exact hb31, by rw [← hx0]; exact pCls_none (fun ⟨j, hj, e⟩ => by first | exact nI_out (n := 6) (by omega) hj (Or.inl hb37) e | exact nI_out (n := 6) (by omega) hj (Or.inr ((nI_lts (k := 5) (by omega)).mp (Int32.not_le.mp hb42))) e), rfl⟩)) _ ⟨g2, cu, nu, no, co, tk, kd, vl, on, rp, me, dp, fr, fm, pl, sm, rs, ⟨hH, hF, hCu, hNu, hNo, hCo, hTk, hKd, hVl, hOn, hRp, hMe, hDp, hFr, hFm, hPl, hSm, hRs⟩, mD.kept (fun y y1 y2 => by rw [hx2 y (by omega), hx1 y (by omega)]), mL.kept (fun y y1 y2 => by rw [hx2 y (by omega), hx1 y (by omega)]), mT', mB.kept (fun y y1 y2 => by rw [hx2 y (by omega), hx1 y (by omega)]), mH.kept (fun y y1 => by rw [hx2 y (by omega), hx1 y (by omega)]), mU⟩ (fun q hq => by rw [ho2 q (by omega), ho1 q (by omega)]))
    · refine V_iload_n d_Mo_load_40 rfl ?_
      refine V_iconst (v := nI 5) d_Mo_load_41 (by decide +kernel) ?_
      refine V_icmp_le (tgt := 47) d_Mo_load_42 (by decide) (fun hb42 => ?_) (fun hb42 => ?_)
      · refine V_aload_n d_Mo_load_47 rfl ?_
        refine V_iload_n d_Mo_load_48 rfl ?_
        refine V_callV (As := [.int x]) (rest := []) (lo' := [some (.ref m), some (.int x)]) (bc1 := 0) (bs1 := 0) (bc' := 0) (bs' := 0) d_Mo_load_49 k_Mo_load_77 hH rfl rfl rfl rfl (by rfl) (by rfl) ?_
        refine c_Mo_loaded hH hCu mL.1.lt ?_
        show pV Γ m_Mo_load 52 [some (.ref m), some (.int x), some (.int (nI (pAlone ld (dTr trs D x))))] [.int (pB (∃ c, c < 6 ∧ x = nI c ∧ 0 < cu c))] _ G2 0 0 Q
        refine V_if_eqB (tgt := 58) d_Mo_load_52 (by decide) (fun hb52 => ?_) (fun hb52 => ?_)
        · obtain ⟨c, hc, hx⟩ := ((pk_ix x (n := 6) (by omega)).resolve_left hb37).resolve_left (fun h => absurd hb42 (Int32.not_le.mpr ((nI_lts (k := 5) (by omega)).mpr h)))
          have hl : ld c = none := by
            cases hl : ld c with
            | none => rfl
            | some L => exact absurd ⟨c, hc, hx, (mL.1.pos hc).mpr ⟨L, hl⟩⟩ hb52
          subst hx
          refine V_aload_n d_Mo_load_58 rfl ?_
          refine V_iload_n d_Mo_load_59 rfl ?_
          refine V_bipush (v := nI 16) d_Mo_load_60 (by decide +kernel) ?_
          refine V_callV (As := [.int (nI c), .int (nI 16)]) (rest := []) (lo' := [some (.ref m), some (.int (nI c)), some (.int (nI 16)), none]) (bc1 := 0) (bs1 := 0) (bc' := 0) (bs' := 0) d_Mo_load_62 k_Mo_load_137 hH rfl rfl rfl rfl (by rfl) (by rfl) ?_
          refine c_Mo_renew hH hF hCu hNu hNo hCo hDp hFr mL.1.lt (fun t ht => by rw [(mH t ht).1]; exact (mH t ht).2.1) mU.1 hc (by omega) (fun G3 g3 r hr1 hr2 hfree hF3 hc3 hx3 hCu' hNu' hNo' hCo' ho3 => ?_)
          have hH := (ho3 _ (by omega)).trans hH
          have hTk := (ho3 _ (by omega)).trans hTk
          have hKd := (ho3 _ (by omega)).trans hKd
          have hVl := (ho3 _ (by omega)).trans hVl
          have hOn := (ho3 _ (by omega)).trans hOn
          have hRp := (ho3 _ (by omega)).trans hRp
          have hMe := (ho3 _ (by omega)).trans hMe
          have hDp := (ho3 _ (by omega)).trans hDp
          have hFr := (ho3 _ (by omega)).trans hFr
          have hFm := (ho3 _ (by omega)).trans hFm
          have hPl := (ho3 _ (by omega)).trans hPl
          have hSm := (ho3 _ (by omega)).trans hSm
          have hRs := (ho3 _ (by omega)).trans hRs
          have hF := hF3
          have hCu := hCu'
          have hNu := hNu'
          have hNo := hNo'
          have hCo := hCo'
          have hfc : ∀ c', c' < 6 → cu c' ≠ r := fun c' h e => hfree (Or.inr ⟨c', h, e⟩)
          show pV Γ m_Mo_load 65 [some (.ref m), some (.int (nI c)), some (.int (nI (pAlone ld (dTr trs D (nI c)))))] [] _ G3 0 0 Q
          refine V_aload_n d_Mo_load_65 rfl ?_
          refine V_bipush (v := nI 13) d_Mo_load_66 (by decide +kernel) ?_
          refine V_iconst (v := nI 1) d_Mo_load_68 (by decide +kernel) ?_
          refine V_iload_n d_Mo_load_69 rfl ?_
          refine V_iaddN d_Mo_load_70 ?_
          refine V_callV (As := [.int (nI 13), .int (nI (1 + c))]) (rest := []) (lo' := [some (.ref m), some (.int (nI 13)), some (.int (nI (1 + c))), none]) (bc1 := 0) (bs1 := 0) (bc' := 0) (bs' := 0) d_Mo_load_71 k_Mo_load_81 hH rfl rfl rfl rfl (by rfl) (by rfl) ?_
          refine c_Mo_transcribe hH hF (by omega) (by omega) (by omega) (fun G4 g4 hF4 hc4 hx4 ho4 => ?_)
          have hH := (ho4 _ (by omega)).trans hH
          have hCu := (ho4 _ (by omega)).trans hCu
          have hNu := (ho4 _ (by omega)).trans hNu
          have hNo := (ho4 _ (by omega)).trans hNo
          have hCo := (ho4 _ (by omega)).trans hCo
          have hTk := (ho4 _ (by omega)).trans hTk
          have hKd := (ho4 _ (by omega)).trans hKd
          have hVl := (ho4 _ (by omega)).trans hVl
          have hOn := (ho4 _ (by omega)).trans hOn
          have hRp := (ho4 _ (by omega)).trans hRp
          have hMe := (ho4 _ (by omega)).trans hMe
          have hDp := (ho4 _ (by omega)).trans hDp
          have hFr := (ho4 _ (by omega)).trans hFr
          have hFm := (ho4 _ (by omega)).trans hFm
          have hPl := (ho4 _ (by omega)).trans hPl
          have hSm := (ho4 _ (by omega)).trans hSm
          have hRs := (ho4 _ (by omega)).trans hRs
          have hF := hF4
          show pV Γ m_Mo_load 74 [some (.ref m), some (.int (nI c)), some (.int (nI (pAlone ld (dTr trs D (nI c)))))] [] _ G4 0 0 Q
          have h0 := (mL.2 c hc).2 hl
          have mL4 : moLs g4 (va_up cu c r) (va_up nu c (nu c + 1)) (va_up no r (nu c + 1)) (va_up co r c) (va_up ld c (some (1, dTr trs D (nI c), dOr trs D (nI c)))) := by
            have z := mL.ren (g := g4) (D' := dTr trs D (nI c)) (O' := dOr trs D (nI c)) hc hr1 hr2 hfc ((hR2.cpy hc3).kept fun y y1 y2 => hx4 y (by omega)) ((hS2.kept (fun y y1 y2 => hx3 y (by omega))).cpy hc4) (fun y y1 y2 y3 y4 => by rw [hx4 y (by omega), hx3 y (by omega), hx2 y (by omega), hx1 y (by omega)])
            rw [show (nu c + 1, dTr trs D (nI c), dOr trs D (nI c)) = ((1 : Nat), dTr trs D (nI c), dOr trs D (nI c)) by rw [h0]] at z
            exact z
          refine V_iconst (v := nI 0) d_Mo_load_74 (by decide +kernel) ?_
          exact V_ireturn d_Mo_load_75 rfl (hS c (by rw [← hx0]; exact hb31) (by rw [← hx0]; exact pCls_nI c hc) hl _ (by rw [← hx0]; exact ⟨g4, va_up cu c r, va_up nu c (nu c + 1), va_up no r (nu c + 1), va_up co r c, tk, kd, vl, on, rp, me, dp, fr, fm, pl, sm, rs, ⟨hH, hF, hCu, hNu, hNo, hCo, hTk, hKd, hVl, hOn, hRp, hMe, hDp, hFr, hFm, hPl, hSm, hRs⟩, mD.kept (fun y y1 y2 => by rw [hx4 y (by omega), hx3 y (by omega), hx2 y (by omega), hx1 y (by omega)]), mL4, mT', mB.kept (fun y y1 y2 => by rw [hx4 y (by omega), hx3 y (by omega), hx2 y (by omega), hx1 y (by omega)]), mH.ren (fun e => hfree (Or.inl e)) (fun y y1 y2 => by rw [hx4 y (by omega), hx3 y (by omega), hx2 y (by omega), hx1 y (by omega)]), mU.ren hc hfree⟩) (fun q hq => by rw [ho4 q (by omega), ho3 q (by omega), ho2 q (by omega), ho1 q (by omega)]))
        · refine V_bipush (v := nI 13) d_Mo_load_55 (by decide +kernel) ?_
          exact V_ireturn d_Mo_load_57 rfl (hN 13 (Or.inr (Or.inr ⟨by rw [← hx0]; exact hb31, ldj hb52, rfl⟩)) _ ⟨g2, cu, nu, no, co, tk, kd, vl, on, rp, me, dp, fr, fm, pl, sm, rs, ⟨hH, hF, hCu, hNu, hNo, hCo, hTk, hKd, hVl, hOn, hRp, hMe, hDp, hFr, hFm, hPl, hSm, hRs⟩, mD.kept (fun y y1 y2 => by rw [hx2 y (by omega), hx1 y (by omega)]), mL.kept (fun y y1 y2 => by rw [hx2 y (by omega), hx1 y (by omega)]), mT', mB.kept (fun y y1 y2 => by rw [hx2 y (by omega), hx1 y (by omega)]), mH.kept (fun y y1 => by rw [hx2 y (by omega), hx1 y (by omega)]), mU⟩ (fun q hq => by rw [ho2 q (by omega), ho1 q (by omega)]))
      · refine V_iconst (v := nI 5) d_Mo_load_45 (by decide +kernel) ?_
        exact V_ireturn d_Mo_load_46 rfl (hN 5 (Or.inr (Or.inl ⟨by rw [← hx0]; exact hb31, by rw [← hx0]; exact pCls_none (fun ⟨j, hj, e⟩ => by first | exact nI_out (n := 6) (by omega) hj (Or.inl hb37) e | exact nI_out (n := 6) (by omega) hj (Or.inr ((nI_lts (k := 5) (by omega)).mp (Int32.not_le.mp hb42))) e), rfl⟩)) _ ⟨g2, cu, nu, no, co, tk, kd, vl, on, rp, me, dp, fr, fm, pl, sm, rs, ⟨hH, hF, hCu, hNu, hNo, hCo, hTk, hKd, hVl, hOn, hRp, hMe, hDp, hFr, hFm, hPl, hSm, hRs⟩, mD.kept (fun y y1 y2 => by rw [hx2 y (by omega), hx1 y (by omega)]), mL.kept (fun y y1 y2 => by rw [hx2 y (by omega), hx1 y (by omega)]), mT', mB.kept (fun y y1 y2 => by rw [hx2 y (by omega), hx1 y (by omega)]), mH.kept (fun y y1 => by rw [hx2 y (by omega), hx1 y (by omega)]), mU⟩ (fun q hq => by rw [ho2 q (by omega), ho1 q (by omega)]))
  · refine V_iload_n d_Mo_load_34 rfl ?_
    exact V_ireturn d_Mo_load_35 rfl (hN _ (Or.inl ⟨by rw [← hx0]; omega, by rw [← hx0]⟩) _ ⟨g2, cu, nu, no, co, tk, kd, vl, on, rp, me, dp, fr, fm, pl, sm, rs, ⟨hH, hF, hCu, hNu, hNo, hCo, hTk, hKd, hVl, hOn, hRp, hMe, hDp, hFr, hFm, hPl, hSm, hRs⟩, mD.kept (fun y y1 y2 => by rw [hx2 y (by omega), hx1 y (by omega)]), mL.kept (fun y y1 y2 => by rw [hx2 y (by omega), hx1 y (by omega)]), mT', mB.kept (fun y y1 y2 => by rw [hx2 y (by omega), hx1 y (by omega)]), mH.kept (fun y y1 => by rw [hx2 y (by omega), hx1 y (by omega)]), mU⟩ (fun q hq => by rw [ho2 q (by omega), ho1 q (by omega)]))
theorem pRule_le2 (ld : LdS) (D : Dfn) (c : Int32) (E : Dfn) : pRule ld D c E ≤ 12 := by
  unfold pRule
  split
  · exact pBes_le D c E
  · have := pAlone_le ld D
    omega
set_option maxHeartbeats 1000000 in
theorem cm_repeat {Γ : pmE} {G : pmG} {n : Nat} {Q : pmPost} {m : Nat} {D : Dfn} {ch : Option Nat} {ld : LdS} {trs : Nat → Trf} {nb : Nat} {bt : Nat → Int32 × Dfn} {th : Nat → Thr} {N : Nat} (mo : isMo G m D ch ld trs nb bt th N) {x : Int32} (hg : gdA ld) (hN : ¬ pLd ld x → Q (some (.int (-1))) n G) (hB : ∀ c L, c < 6 → x = nI c → ld c = some L → pRule ld (dChgs trs x true L.2.2 5) x L.2.1 ≠ 0 → ∀ G', isMo G' m D ch ld trs nb bt th N → (∀ q, (q < m ∨ m + 18 ≤ q) → G' q = G q) → Q (some (.int (nI (pRule ld (dChgs trs x true L.2.2 5) x L.2.1)))) n G') (hS : ∀ c L, c < 6 → x = nI c → ld c = some L → pRule ld (dChgs trs x true L.2.2 5) x L.2.1 = 0 → ∀ G', isMo G' m D ch (va_up ld c (some (L.1 + 1, dChgs trs x true L.2.2 5, L.2.2))) trs nb bt th (N + 1) → (∀ q, (q < m ∨ m + 18 ≤ q) → G' q = G q) → Q (some (.int (nI 0))) n G') : pV Γ m_Mo_repeat 0 [some (.ref m), some (.int x), none] [] n G 0 0 Q := by
  obtain ⟨f, cu, nu, no, co, tk, kd, vl, on, rp, me, dp, fr, fm, pl, sm, rs, ⟨hH, hF, hCu, hNu, hNo, hCo, hTk, hKd, hVl, hOn, hRp, hMe, hDp, hFr, hFm, hPl, hSm, hRs⟩, mD, mL, mT', mB, mH, mU⟩ := mo
  refine V_aload_n d_Mo_repeat_0 rfl ?_
  refine V_iload_n d_Mo_repeat_1 rfl ?_
  refine V_callV (As := [.int x]) (rest := []) (lo' := [some (.ref m), some (.int x)]) (bc1 := 0) (bs1 := 0) (bc' := 0) (bs' := 0) d_Mo_repeat_2 k_Mo_repeat_77 hH rfl rfl rfl rfl (by rfl) (by rfl) ?_
  refine c_Mo_loaded hH hCu mL.1.lt ?_
  show pV Γ m_Mo_repeat 5 [some (.ref m), some (.int x), none] [.int (pB (∃ c, c < 6 ∧ x = nI c ∧ 0 < cu c))] _ G 0 0 Q
  refine V_if_neB (tgt := 10) d_Mo_repeat_5 (by decide) (fun hb5 => ?_) (fun hb5 => ?_)
  · obtain ⟨c, hc, hx, h0⟩ := hb5
    obtain ⟨L, hl⟩ := (mL.1.pos hc).mp h0
    subst hx
    have hb := (mL.2 c hc).1 L hl
    have hdE := (hg c L hc hl).2.1
    refine V_aload_n d_Mo_repeat_10 rfl ?_
    refine V_iconst (v := nI 1) d_Mo_repeat_11 (by decide +kernel) ?_
    refine V_iload_n d_Mo_repeat_12 rfl ?_
    refine V_iaddN d_Mo_repeat_13 ?_
    refine V_bipush (v := nI 16) d_Mo_repeat_14 (by decide +kernel) ?_
    refine V_callV (As := [.int (nI (1 + c)), .int (nI 16)]) (rest := []) (lo' := [some (.ref m), some (.int (nI (1 + c))), some (.int (nI 16)), none]) (bc1 := 0) (bs1 := 0) (bc' := 0) (bs' := 0) d_Mo_repeat_16 k_Mo_repeat_81 hH rfl rfl rfl rfl (by rfl) (by rfl) ?_
    refine c_Mo_transcribe hH hF (by omega) (by omega) (by omega) (fun G1 g1 hF1 hc1 hx1 ho1 => ?_)
    have hH := (ho1 _ (by omega)).trans hH
    have hCu := (ho1 _ (by omega)).trans hCu
    have hNu := (ho1 _ (by omega)).trans hNu
    have hNo := (ho1 _ (by omega)).trans hNo
    have hCo := (ho1 _ (by omega)).trans hCo
    have hTk := (ho1 _ (by omega)).trans hTk
    have hKd := (ho1 _ (by omega)).trans hKd
    have hVl := (ho1 _ (by omega)).trans hVl
    have hOn := (ho1 _ (by omega)).trans hOn
    have hRp := (ho1 _ (by omega)).trans hRp
    have hMe := (ho1 _ (by omega)).trans hMe
    have hDp := (ho1 _ (by omega)).trans hDp
    have hFr := (ho1 _ (by omega)).trans hFr
    have hFm := (ho1 _ (by omega)).trans hFm
    have hPl := (ho1 _ (by omega)).trans hPl
    have hSm := (ho1 _ (by omega)).trans hSm
    have hRs := (ho1 _ (by omega)).trans hRs
    have hF := hF1
    have R16 : isRow g1 16 L.2.2 := hb.2.2.2.cpy hc1
    show pV Γ m_Mo_repeat 19 [some (.ref m), some (.int (nI c)), none] [] _ G1 0 0 Q
    refine V_aload_n d_Mo_repeat_19 rfl ?_
    refine V_bipush (v := nI 16) d_Mo_repeat_20 (by decide +kernel) ?_
    refine V_iload_n d_Mo_repeat_22 rfl ?_
    refine V_iconst (v := nI 1) d_Mo_repeat_23 (by decide +kernel) ?_
    refine V_callV (As := [.int (nI 16), .int (nI c), .int (nI 1)]) (rest := []) (lo' := [some (.ref m), some (.int (nI 16)), some (.int (nI c)), some (.int (nI 1)), none]) (bc1 := 0) (bs1 := 0) (bc' := 0) (bs' := 0) d_Mo_repeat_24 k_Mo_repeat_95 hH rfl rfl rfl rfl (by rfl) (by rfl) ?_
    refine c_Mo_changes (again := true) hH hF hTk hKd hVl hOn hRp (by omega) (fun k hk => (mT' k hk).2.1) (pB_t rfl).symm R16 (fun G2 g2 hF2 hR2 hx2 ho2 => ?_)
    have hH := (ho2 _ (by omega)).trans hH
    have hCu := (ho2 _ (by omega)).trans hCu
    have hNu := (ho2 _ (by omega)).trans hNu
    have hNo := (ho2 _ (by omega)).trans hNo
    have hCo := (ho2 _ (by omega)).trans hCo
    have hTk := (ho2 _ (by omega)).trans hTk
    have hKd := (ho2 _ (by omega)).trans hKd
    have hVl := (ho2 _ (by omega)).trans hVl
    have hOn := (ho2 _ (by omega)).trans hOn
    have hRp := (ho2 _ (by omega)).trans hRp
    have hMe := (ho2 _ (by omega)).trans hMe
    have hDp := (ho2 _ (by omega)).trans hDp
    have hFr := (ho2 _ (by omega)).trans hFr
    have hFm := (ho2 _ (by omega)).trans hFm
    have hPl := (ho2 _ (by omega)).trans hPl
    have hSm := (ho2 _ (by omega)).trans hSm
    have hRs := (ho2 _ (by omega)).trans hRs
    have hF := hF2
    rw [mT'.chgs] at hR2
    have mL2 : moLs g2 cu nu no co ld := mL.kept (fun y y1 y2 => by rw [hx2 y (by omega), hx1 y (by omega)])
    have hal := pRule_le2 ld (dChgs trs (nI c) true L.2.2 5) (nI c) L.2.1
    show pV Γ m_Mo_repeat 27 [some (.ref m), some (.int (nI c)), none] [] _ G2 0 0 Q
    refine V_aload_n d_Mo_repeat_27 rfl ?_
    refine V_bipush (v := nI 16) d_Mo_repeat_28 (by decide +kernel) ?_
    refine V_iload_n d_Mo_repeat_30 rfl ?_
    refine V_callV (As := [.int (nI 16), .int (nI c)]) (rest := []) (lo' := [some (.ref m), some (.int (nI 16)), some (.int (nI c)), none, none]) (bc1 := 0) (bs1 := 0) (bc' := 0) (bs' := 0) d_Mo_repeat_31 k_Mo_repeat_143 hH rfl rfl rfl rfl (by rfl) (by rfl) ?_
    refine c_Mo_rules hH hF hCu (by omega) hc hl hR2 mL2.1 hdE ?_
    show pV Γ m_Mo_repeat 34 [some (.ref m), some (.int (nI c)), none] [.int (nI (pRule ld (dChgs trs (nI c) true L.2.2 5) (nI c) L.2.1))] _ G2 0 0 Q
    refine V_istore_n d_Mo_repeat_34 (Nat.le_of_ble_eq_true rfl) ?_
    show pV Γ _ _ [some (.ref m), some (.int (nI c)), some (.int (nI (pRule ld (dChgs trs (nI c) true L.2.2 5) (nI c) L.2.1)))] _ _ _ _ _ _
    refine V_iload_n d_Mo_repeat_35 rfl ?_
    refine V_if_neN (tgt := 46) d_Mo_repeat_36 (by decide) (by omega) (fun hb36 => ?_) (fun hb36 => ?_)
    · refine V_iload_n d_Mo_repeat_46 rfl ?_
      exact V_ireturn d_Mo_repeat_47 rfl (hB c L hc rfl hl (by omega) _ ⟨g2, cu, nu, no, co, tk, kd, vl, on, rp, me, dp, fr, fm, pl, sm, rs, ⟨hH, hF, hCu, hNu, hNo, hCo, hTk, hKd, hVl, hOn, hRp, hMe, hDp, hFr, hFm, hPl, hSm, hRs⟩, mD.kept (fun y y1 y2 => by rw [hx2 y (by omega), hx1 y (by omega)]), mL.kept (fun y y1 y2 => by rw [hx2 y (by omega), hx1 y (by omega)]), mT', mB.kept (fun y y1 y2 => by rw [hx2 y (by omega), hx1 y (by omega)]), mH.kept (fun y y1 => by rw [hx2 y (by omega), hx1 y (by omega)]), mU⟩ (fun q hq => by rw [ho2 q (by omega), ho1 q (by omega)]))
    · refine V_aload_n d_Mo_repeat_39 rfl ?_
      refine V_iload_n d_Mo_repeat_40 rfl ?_
      refine V_bipush (v := nI 16) d_Mo_repeat_41 (by decide +kernel) ?_
      refine V_callV (As := [.int (nI c), .int (nI 16)]) (rest := []) (lo' := [some (.ref m), some (.int (nI c)), some (.int (nI 16)), none]) (bc1 := 0) (bs1 := 0) (bc' := 0) (bs' := 0) d_Mo_repeat_43 k_Mo_repeat_137 hH rfl rfl rfl rfl (by rfl) (by rfl) ?_
      refine c_Mo_renew hH hF hCu hNu hNo hCo hDp hFr mL.1.lt (fun t ht => by rw [(mH t ht).1]; exact (mH t ht).2.1) mU.1 hc (by omega) (fun G3 g3 r hr1 hr2 hfree hF3 hc3 hx3 hCu' hNu' hNo' hCo' ho3 => ?_)
      have hH := (ho3 _ (by omega)).trans hH
      have hTk := (ho3 _ (by omega)).trans hTk
      have hKd := (ho3 _ (by omega)).trans hKd
      have hVl := (ho3 _ (by omega)).trans hVl
      have hOn := (ho3 _ (by omega)).trans hOn
      have hRp := (ho3 _ (by omega)).trans hRp
      have hMe := (ho3 _ (by omega)).trans hMe
      have hDp := (ho3 _ (by omega)).trans hDp
      have hFr := (ho3 _ (by omega)).trans hFr
      have hFm := (ho3 _ (by omega)).trans hFm
      have hPl := (ho3 _ (by omega)).trans hPl
      have hSm := (ho3 _ (by omega)).trans hSm
      have hRs := (ho3 _ (by omega)).trans hRs
      have hF := hF3
      have hCu := hCu'
      have hNu := hNu'
      have hNo := hNo'
      have hCo := hCo'
      have hfc : ∀ c', c' < 6 → cu c' ≠ r := fun c' h e => hfree (Or.inr ⟨c', h, e⟩)
      show pV Γ m_Mo_repeat 46 [some (.ref m), some (.int (nI c)), some (.int (nI (pRule ld (dChgs trs (nI c) true L.2.2 5) (nI c) L.2.1)))] [] _ G3 0 0 Q
      have mL3 : moLs g3 (va_up cu c r) (va_up nu c (nu c + 1)) (va_up no r (nu c + 1)) (va_up co r c) (va_up ld c (some (L.1 + 1, dChgs trs (nI c) true L.2.2 5, L.2.2))) := by
        have z := mL.ren (g := g3) (D' := dChgs trs (nI c) true L.2.2 5) (O' := L.2.2) hc hr1 hr2 hfc (hR2.cpy hc3) (hb.2.2.2.kept fun y y1 y2 => by rw [hx3 y (by omega), hx2 y (by omega), hx1 y (by omega)]) (fun y y1 y2 y3 y4 => by rw [hx3 y (by omega), hx2 y (by omega), hx1 y (by omega)])
        rw [show (nu c + 1, dChgs trs (nI c) true L.2.2 5, L.2.2) = (L.1 + 1, dChgs trs (nI c) true L.2.2 5, L.2.2) by rw [hb.1]] at z
        exact z
      refine V_iload_n d_Mo_repeat_46 rfl ?_
      exact V_ireturn d_Mo_repeat_47 rfl (by rw [hb36]; exact hS c L hc rfl hl hb36 _ ⟨g3, va_up cu c r, va_up nu c (nu c + 1), va_up no r (nu c + 1), va_up co r c, tk, kd, vl, on, rp, me, dp, fr, fm, pl, sm, rs, ⟨hH, hF, hCu, hNu, hNo, hCo, hTk, hKd, hVl, hOn, hRp, hMe, hDp, hFr, hFm, hPl, hSm, hRs⟩, mD.kept (fun y y1 y2 => by rw [hx3 y (by omega), hx2 y (by omega), hx1 y (by omega)]), mL3, mT', mB.kept (fun y y1 y2 => by rw [hx3 y (by omega), hx2 y (by omega), hx1 y (by omega)]), mH.ren (fun e => hfree (Or.inl e)) (fun y y1 y2 => by rw [hx3 y (by omega), hx2 y (by omega), hx1 y (by omega)]), mU.ren hc hfree⟩ (fun q hq => by rw [ho3 q (by omega), ho2 q (by omega), ho1 q (by omega)]))
  · refine V_iconst (v := (-1)) d_Mo_repeat_8 (by decide +kernel) ?_
    exact V_ireturn d_Mo_repeat_9 rfl (hN (fun p => hb5 ((mL.1.ldd x).mpr p)))
set_option maxHeartbeats 1000000 in
theorem c_swapF {Γ : pmE} {G1 : pmG} {n : Nat} {Q : pmPost} {m nb v i : Nat} {ch0 : Int32} {w3 : Option Value} (hH : G1 m = some (.inr (kMo, moFs m ch0 (nI nb)))) (hv0 : 0 < v) (hv : v < 2 ^ 31) (hi : i ≤ 4) (hnb : nb ≤ 3) (hQ' : ∀ G', G' m = some (.inr (kMo, moFs m ch0 (nI 0))) → (∀ q, q ≠ m → G' q = G1 q) → Q (some (.int (nI v))) n G') : pV Γ m_Mo_swap 4 [some (.ref m), some (.int (nI v)), some (.int (nI i)), w3] [] n G1 0 0 Q := by
    refine V_iload_n d_Mo_swap_4 rfl ?_
    refine V_aload_n d_Mo_swap_5 rfl ?_
    refine V_getf d_Mo_swap_6 f_Mo_140 hH rfl ?_
    refine V_icmp_geN (tgt := 87) d_Mo_swap_9 (by decide) (by omega) (by omega) (fun hb9 => ?_) (fun hb9 => ?_)
    · refine V_iconst (v := nI 0) d_Mo_swap_87 (by decide +kernel) ?_
      refine V_istore_n d_Mo_swap_88 (Nat.le_of_ble_eq_true rfl) ?_
      show pV Γ _ _ [some (.ref m), some (.int (nI v)), some (.int (nI 0)), w3] _ _ _ _ _ _
      refine V_iload_n d_Mo_swap_89 rfl ?_
      refine V_aload_n d_Mo_swap_90 rfl ?_
      refine V_getf d_Mo_swap_91 f_Mo_140 hH rfl ?_
      refine V_icmp_geN (tgt := 137) d_Mo_swap_94 (by decide) (by omega) (by omega) (fun hb94 => ?_) (fun hb94 => ?_)
      · refine V_aload_n d_Mo_swap_137 rfl ?_
        refine V_iconst (v := nI 0) d_Mo_swap_138 (by decide +kernel) ?_
        refine V_putf d_Mo_swap_139 f_Mo_140 p_Mo_140 hH rfl rfl rfl (fun G2 hHz ho2 => ?_)
        have hH : G2 m = some (.inr (kMo, [.ref (m + 1), .int ch0, .ref (m + 2), .ref (m + 3), .ref (m + 4), .ref (m + 5), .ref (m + 6), .ref (m + 7), .ref (m + 8), .ref (m + 9), .ref (m + 10), .int (nI 0), .ref (m + 11), .ref (m + 12), .ref (m + 13), .ref (m + 14), .ref (m + 15), .ref (m + 16), .ref (m + 17)])) := hHz
        refine V_iload_n d_Mo_swap_142 rfl ?_
        exact V_ireturn d_Mo_swap_143 rfl (hQ' _ hH ho2)
      · refine V_iload_n d_Mo_swap_97 rfl ?_
        refine V_if_neN (tgt := 137) d_Mo_swap_98 (by decide) (by omega) (fun hb98 => ?_) (fun hb98 => ?_)
        · refine V_aload_n d_Mo_swap_137 rfl ?_
          refine V_iconst (v := nI 0) d_Mo_swap_138 (by decide +kernel) ?_
          refine V_putf d_Mo_swap_139 f_Mo_140 p_Mo_140 hH rfl rfl rfl (fun G2 hHz ho2 => ?_)
          have hH : G2 m = some (.inr (kMo, [.ref (m + 1), .int ch0, .ref (m + 2), .ref (m + 3), .ref (m + 4), .ref (m + 5), .ref (m + 6), .ref (m + 7), .ref (m + 8), .ref (m + 9), .ref (m + 10), .int (nI 0), .ref (m + 11), .ref (m + 12), .ref (m + 13), .ref (m + 14), .ref (m + 15), .ref (m + 16), .ref (m + 17)])) := hHz
          refine V_iload_n d_Mo_swap_142 rfl ?_
          exact V_ireturn d_Mo_swap_143 rfl (hQ' _ hH ho2)
        · exact absurd hv0 (by omega)
    · refine V_iload_n d_Mo_swap_12 rfl ?_
      refine V_if_neN (tgt := 87) d_Mo_swap_13 (by decide) (by omega) (fun hb13 => ?_) (fun hb13 => ?_)
      · refine V_iconst (v := nI 0) d_Mo_swap_87 (by decide +kernel) ?_
        refine V_istore_n d_Mo_swap_88 (Nat.le_of_ble_eq_true rfl) ?_
        show pV Γ _ _ [some (.ref m), some (.int (nI v)), some (.int (nI 0)), w3] _ _ _ _ _ _
        refine V_iload_n d_Mo_swap_89 rfl ?_
        refine V_aload_n d_Mo_swap_90 rfl ?_
        refine V_getf d_Mo_swap_91 f_Mo_140 hH rfl ?_
        refine V_icmp_geN (tgt := 137) d_Mo_swap_94 (by decide) (by omega) (by omega) (fun hb94 => ?_) (fun hb94 => ?_)
        · refine V_aload_n d_Mo_swap_137 rfl ?_
          refine V_iconst (v := nI 0) d_Mo_swap_138 (by decide +kernel) ?_
          refine V_putf d_Mo_swap_139 f_Mo_140 p_Mo_140 hH rfl rfl rfl (fun G2 hHz ho2 => ?_)
          have hH : G2 m = some (.inr (kMo, [.ref (m + 1), .int ch0, .ref (m + 2), .ref (m + 3), .ref (m + 4), .ref (m + 5), .ref (m + 6), .ref (m + 7), .ref (m + 8), .ref (m + 9), .ref (m + 10), .int (nI 0), .ref (m + 11), .ref (m + 12), .ref (m + 13), .ref (m + 14), .ref (m + 15), .ref (m + 16), .ref (m + 17)])) := hHz
          refine V_iload_n d_Mo_swap_142 rfl ?_
          exact V_ireturn d_Mo_swap_143 rfl (hQ' _ hH ho2)
        · refine V_iload_n d_Mo_swap_97 rfl ?_
          refine V_if_neN (tgt := 137) d_Mo_swap_98 (by decide) (by omega) (fun hb98 => ?_) (fun hb98 => ?_)
          · refine V_aload_n d_Mo_swap_137 rfl ?_
            refine V_iconst (v := nI 0) d_Mo_swap_138 (by decide +kernel) ?_
            refine V_putf d_Mo_swap_139 f_Mo_140 p_Mo_140 hH rfl rfl rfl (fun G2 hHz ho2 => ?_)
            have hH : G2 m = some (.inr (kMo, [.ref (m + 1), .int ch0, .ref (m + 2), .ref (m + 3), .ref (m + 4), .ref (m + 5), .ref (m + 6), .ref (m + 7), .ref (m + 8), .ref (m + 9), .ref (m + 10), .int (nI 0), .ref (m + 11), .ref (m + 12), .ref (m + 13), .ref (m + 14), .ref (m + 15), .ref (m + 16), .ref (m + 17)])) := hHz
            refine V_iload_n d_Mo_swap_142 rfl ?_
            exact V_ireturn d_Mo_swap_143 rfl (hQ' _ hH ho2)
          · exact absurd hv0 (by omega)
      · exact absurd hv0 (by omega)
set_option maxHeartbeats 1000000 in
theorem cm_swap {Γ : pmE} {G : pmG} {n : Nat} {Q : pmPost} {m : Nat} {D : Dfn} {ch : Option Nat} {ld : LdS} {trs : Nat → Trf} {nb : Nat} {bt : Nat → Int32 × Dfn} {th : Nat → Thr} {N : Nat} (mo : isMo G m D ch ld trs nb bt th N) (hg : gdA ld) (hbl : ∀ i, i < nb → pLd ld (bt i).1) (hS : (∀ i, i < nb → swR ld trs (bt i).1 (bt i).2 = 0) → ∀ G', isMo G' m D ch (ldI ld trs bt nb) trs 0 bt th (N + 3) → (∀ q, (q < m ∨ m + 18 ≤ q) → G' q = G q) → Q (some (.int (nI 0))) n G') (hB : ∀ i, i < nb → swR ld trs (bt i).1 (bt i).2 ≠ 0 → (∀ j, j < i → swR ld trs (bt j).1 (bt j).2 = 0) → ∀ G', isMo G' m D ch ld trs 0 bt th N → (∀ q, (q < m ∨ m + 18 ≤ q) → G' q = G q) → Q (some (.int (nI 16 * (bt i).1 + nI (swR ld trs (bt i).1 (bt i).2)))) n G') : pV Γ m_Mo_swap 0 [some (.ref m), none, none, none] [] n G 0 0 Q := by
  obtain ⟨f, cu, nu, no, co, tk, kd, vl, on, rp, me, dp, fr, fm, pl, sm, rs, ⟨hH, hF, hCu, hNu, hNo, hCo, hTk, hKd, hVl, hOn, hRp, hMe, hDp, hFr, hFm, hPl, hSm, hRs⟩, mD, mL, mT', mB, mH, mU⟩ := mo
  have hnb3 := mB.1
  have inst : (∀ i, i < nb → swR ld trs (bt i).1 (bt i).2 = 0) → ∀ (d i : Nat), i ≤ nb → nb - i < d → ∀ (w3 : Option Value) (G1 : pmG) (f1 : Nat → Int32) (cu1 nu1 no1 co1 : Nat → Nat), G1 m = some (.inr (kMo, moFs m (chI ch) (nI nb))) → G1 (m + 1) = some (.inl (0, 4387, .inl f1)) → G1 (m + 2) = some (.inl (0, 6, .inl (fun j => nI (cu1 j)))) → G1 (m + 3) = some (.inl (0, 6, .inl (fun j => nI (nu1 j)))) → G1 (m + 4) = some (.inl (0, 41, .inl (fun j => nI (no1 j)))) → G1 (m + 5) = some (.inl (0, 41, .inl (fun j => nI (co1 j)))) → G1 (m + 6) = some (.inl (1, 5, .inl (fun j => pB (tk j = true)))) → G1 (m + 7) = some (.inl (0, 5, .inl (fun j => nI (kd j)))) → G1 (m + 8) = some (.inl (0, 5, .inl vl)) → G1 (m + 9) = some (.inl (0, 5, .inl on)) → G1 (m + 10) = some (.inl (1, 5, .inl (fun j => pB (rp j = true)))) → G1 (m + 11) = some (.inl (0, 3, .inl me)) → G1 (m + 12) = some (.inl (0, 3, .inl (fun j => nI (dp j)))) → G1 (m + 13) = some (.inl (0, 15, .inl (fun j => nI (fr j)))) → G1 (m + 14) = some (.inl (0, 15, .inl (fun j => nI (fm j)))) → G1 (m + 15) = some (.inl (0, 15, .inl (fun j => nI (pl j)))) → G1 (m + 16) = some (.inl (0, 15, .inl sm)) → G1 (m + 17) = some (.inl (0, 3, .inl rs)) → isRow f1 0 D → moLs f1 cu1 nu1 no1 co1 (ldI ld trs bt i) → moHs f1 no1 co1 dp fr fm pl sm rs th → moUs cu1 nu1 no1 co1 dp fr (N + i) → (∀ j, j < nb → isRow f1 (10 + j) (dTr trs (bt j).2 (bt j).1) ∧ isRow f1 (13 + j) (dOr trs (bt j).2 (bt j).1)) → (∀ q, (q < m ∨ m + 18 ≤ q) → G1 q = G q) → pV Γ m_Mo_swap 89 [some (.ref m), some (.int (nI 0)), some (.int (nI i)), w3] [] n G1 0 0 Q := by
    intro hall d
    induction d with
    | zero => intro i _ hd; exact absurd hd (by omega)
    | succ d ih =>
      intro i hi hd w3 G1 f1 cu1 nu1 no1 co1 hH hF hCu hNu hNo hCo hTk hKd hVl hOn hRp hMe hDp hFr hFm hPl hSm hRs mD1 mL1 mH1 mU1 hrw ho1
      refine V_iload_n d_Mo_swap_89 rfl ?_
      refine V_aload_n d_Mo_swap_90 rfl ?_
      refine V_getf d_Mo_swap_91 f_Mo_140 hH rfl ?_
      refine V_icmp_geN (tgt := 137) d_Mo_swap_94 (by decide) (by omega) (by omega) (fun hb94 => ?_) (fun hb94 => ?_)
      · have hF0 := hF
        have hCu0 := hCu
        have hNu0 := hNu
        have hNo0 := hNo
        have hCo0 := hCo
        have hTk0 := hTk
        have hKd0 := hKd
        have hVl0 := hVl
        have hOn0 := hOn
        have hRp0 := hRp
        have hMe0 := hMe
        have hDp0 := hDp
        have hFr0 := hFr
        have hFm0 := hFm
        have hPl0 := hPl
        have hSm0 := hSm
        have hRs0 := hRs
        refine V_aload_n d_Mo_swap_137 rfl ?_
        refine V_iconst (v := nI 0) d_Mo_swap_138 (by decide +kernel) ?_
        refine V_putf d_Mo_swap_139 f_Mo_140 p_Mo_140 hH rfl rfl rfl (fun G2 hHz ho2 => ?_)
        have hH : G2 m = some (.inr (kMo, [.ref (m + 1), .int ((chI ch)), .ref (m + 2), .ref (m + 3), .ref (m + 4), .ref (m + 5), .ref (m + 6), .ref (m + 7), .ref (m + 8), .ref (m + 9), .ref (m + 10), .int (nI 0), .ref (m + 11), .ref (m + 12), .ref (m + 13), .ref (m + 14), .ref (m + 15), .ref (m + 16), .ref (m + 17)])) := hHz
        have hMe := (ho2 _ (by omega)).trans hMe
        refine V_iload_n d_Mo_swap_142 rfl ?_
        exact V_ireturn d_Mo_swap_143 rfl (hS hall _ ⟨f1, cu1, nu1, no1, co1, tk, kd, vl, on, rp, me, dp, fr, fm, pl, sm, rs, ⟨hH, ((ho2 _ (by omega)).trans hF0), ((ho2 _ (by omega)).trans hCu0), ((ho2 _ (by omega)).trans hNu0), ((ho2 _ (by omega)).trans hNo0), ((ho2 _ (by omega)).trans hCo0), ((ho2 _ (by omega)).trans hTk0), ((ho2 _ (by omega)).trans hKd0), ((ho2 _ (by omega)).trans hVl0), ((ho2 _ (by omega)).trans hOn0), ((ho2 _ (by omega)).trans hRp0), ((ho2 _ (by omega)).trans hMe0), ((ho2 _ (by omega)).trans hDp0), ((ho2 _ (by omega)).trans hFr0), ((ho2 _ (by omega)).trans hFm0), ((ho2 _ (by omega)).trans hPl0), ((ho2 _ (by omega)).trans hSm0), ((ho2 _ (by omega)).trans hRs0)⟩, mD1, (by rw [show nb = i by omega]; exact mL1), mT', ⟨Nat.zero_le _, fun j hj => absurd hj (Nat.not_lt_zero _)⟩, mH1, mU1.mono (by omega)⟩ (fun q hq => by rw [ho2 q (by omega), ho1 q (by omega)]))
      · refine V_iload_n d_Mo_swap_97 rfl ?_
        refine V_if_neN (tgt := 137) d_Mo_swap_98 (by decide) (by omega) (fun h => absurd h (by omega)) (fun _ => ?_)
        refine V_aload_n d_Mo_swap_101 rfl ?_
        refine V_aload_n d_Mo_swap_102 rfl ?_
        refine V_getf d_Mo_swap_103 f_Mo_45 hH rfl ?_
        refine V_iload_n d_Mo_swap_106 rfl ?_
        obtain ⟨c, hc, hx, L, hl⟩ : pLd (ldI ld trs bt i) (bt i).1 := by
          obtain ⟨c, hc, hx, L, hl⟩ := hbl i (by omega)
          obtain ⟨L', hl', _⟩ := (ldI_spec (ld := ld) (trs := trs) (bt := bt) i).2 c L hc hl
          exact ⟨c, hc, hx, L', hl'⟩
        have hme : me i = nI c := (mB.2 i (by omega)).2.trans hx
        refine V_iaload (j := i) d_Mo_swap_107 rfl hMe rfl (by omega) (by omega) ?_
        rw [hme]
        show pV Γ _ _ [some (.ref m), some (.int (nI 0)), some (.int (nI i)), w3] (.int (nI c) :: [.ref m]) _ _ _ _ _
        refine V_bipush (v := nI 10) d_Mo_swap_108 (by decide +kernel) ?_
        refine V_iload_n d_Mo_swap_110 rfl ?_
        refine V_iaddN d_Mo_swap_111 ?_
        refine V_callV (As := [.int (nI c), .int (nI (10 + i))]) (rest := []) (lo' := [some (.ref m), some (.int (nI c)), some (.int (nI (10 + i))), none]) (bc1 := 0) (bs1 := 0) (bc' := 0) (bs' := 0) d_Mo_swap_112 k_Mo_swap_137 hH rfl rfl rfl rfl (by rfl) (by rfl) ?_
        refine c_Mo_renew hH hF hCu hNu hNo hCo hDp hFr mL1.1.lt (fun t ht => by rw [(mH1 t ht).1]; exact (mH1 t ht).2.1) mU1.1 hc (by omega) (fun G2 g2 r hr1 hr2 hfree hF2 hc2 hx2 hCu' hNu' hNo' hCo' ho2 => ?_)
        have hH := (ho2 _ (by omega)).trans hH
        have hTk := (ho2 _ (by omega)).trans hTk
        have hKd := (ho2 _ (by omega)).trans hKd
        have hVl := (ho2 _ (by omega)).trans hVl
        have hOn := (ho2 _ (by omega)).trans hOn
        have hRp := (ho2 _ (by omega)).trans hRp
        have hMe := (ho2 _ (by omega)).trans hMe
        have hDp := (ho2 _ (by omega)).trans hDp
        have hFr := (ho2 _ (by omega)).trans hFr
        have hFm := (ho2 _ (by omega)).trans hFm
        have hPl := (ho2 _ (by omega)).trans hPl
        have hSm := (ho2 _ (by omega)).trans hSm
        have hRs := (ho2 _ (by omega)).trans hRs
        have hF := hF2
        have hCu := hCu'
        have hNu := hNu'
        have hNo := hNo'
        have hCo := hCo'
        have hfc : ∀ c', c' < 6 → cu1 c' ≠ r := fun c' h e => hfree (Or.inr ⟨c', h, e⟩)
        show pV Γ m_Mo_swap 115 [some (.ref m), some (.int (nI 0)), some (.int (nI i)), w3] [] _ G2 0 0 Q
        refine V_aload_n d_Mo_swap_115 rfl ?_
        refine V_bipush (v := nI 13) d_Mo_swap_116 (by decide +kernel) ?_
        refine V_iload_n d_Mo_swap_118 rfl ?_
        refine V_iaddN d_Mo_swap_119 ?_
        refine V_iconst (v := nI 1) d_Mo_swap_120 (by decide +kernel) ?_
        refine V_aload_n d_Mo_swap_121 rfl ?_
        refine V_getf d_Mo_swap_122 f_Mo_45 hH rfl ?_
        refine V_iload_n d_Mo_swap_125 rfl ?_
        refine V_iaload (j := i) d_Mo_swap_126 rfl hMe rfl (by omega) (by omega) ?_
        rw [hme]
        show pV Γ _ _ [some (.ref m), some (.int (nI 0)), some (.int (nI i)), w3] (.int (nI c) :: [.int (nI 1), .int (nI (13 + i)), .ref m]) _ _ _ _ _
        refine V_iaddN d_Mo_swap_127 ?_
        refine V_callV (As := [.int (nI (13 + i)), .int (nI (1 + c))]) (rest := []) (lo' := [some (.ref m), some (.int (nI (13 + i))), some (.int (nI (1 + c))), none]) (bc1 := 0) (bs1 := 0) (bc' := 0) (bs' := 0) d_Mo_swap_128 k_Mo_swap_81 hH rfl rfl rfl rfl (by rfl) (by rfl) ?_
        refine c_Mo_transcribe hH hF (by omega) (by omega) (by omega) (fun G3 g3 hF3 hc3 hx3 ho3 => ?_)
        have hH := (ho3 _ (by omega)).trans hH
        have hCu := (ho3 _ (by omega)).trans hCu
        have hNu := (ho3 _ (by omega)).trans hNu
        have hNo := (ho3 _ (by omega)).trans hNo
        have hCo := (ho3 _ (by omega)).trans hCo
        have hTk := (ho3 _ (by omega)).trans hTk
        have hKd := (ho3 _ (by omega)).trans hKd
        have hVl := (ho3 _ (by omega)).trans hVl
        have hOn := (ho3 _ (by omega)).trans hOn
        have hRp := (ho3 _ (by omega)).trans hRp
        have hMe := (ho3 _ (by omega)).trans hMe
        have hDp := (ho3 _ (by omega)).trans hDp
        have hFr := (ho3 _ (by omega)).trans hFr
        have hFm := (ho3 _ (by omega)).trans hFm
        have hPl := (ho3 _ (by omega)).trans hPl
        have hSm := (ho3 _ (by omega)).trans hSm
        have hRs := (ho3 _ (by omega)).trans hRs
        have hF := hF3
        show pV Γ m_Mo_swap 131 [some (.ref m), some (.int (nI 0)), some (.int (nI i)), w3] [] _ G3 0 0 Q
        refine V_iincN d_Mo_swap_131 rfl ?_
        show pV Γ _ _ [some (.ref m), some (.int (nI 0)), some (.int (nI (i + 1))), w3] _ _ _ _ _ _
        refine V_goto (tgt := 89) d_Mo_swap_134 (by decide) ?_
        have hb := (mL1.2 c hc).1 L hl
        have mL3 : moLs g3 (va_up cu1 c r) (va_up nu1 c (nu1 c + 1)) (va_up no1 r (nu1 c + 1)) (va_up co1 r c) (ldI ld trs bt (i + 1)) := by
          have z := mL1.ren (g := g3) (D' := dTr trs (bt i).2 (bt i).1) (O' := dOr trs (bt i).2 (bt i).1) hc hr1 hr2 hfc (((hrw i (by omega)).1.cpy hc2).kept fun y y1 y2 => hx3 y (by omega)) (((hrw i (by omega)).2.kept (fun y y1 y2 => hx2 y (by omega))).cpy hc3) (fun y y1 y2 y3 y4 => by rw [hx3 y (by omega), hx2 y (by omega)])
          have e : ldI ld trs bt (i + 1) = va_up (ldI ld trs bt i) c (some (L.1 + 1, dTr trs (bt i).2 (bt i).1, dOr trs (bt i).2 (bt i).1)) := insLd_some hc hx hl
          rw [e, ← hb.1]
          exact z
        exact ih (i + 1) (by omega) (by omega) _ G3 g3 _ _ _ _ hH hF hCu hNu hNo hCo hTk hKd hVl hOn hRp hMe hDp hFr hFm hPl hSm hRs (mD1.kept fun y y1 y2 => by rw [hx3 y (by omega), hx2 y (by omega)]) mL3 (mH1.ren (fun e => hfree (Or.inl e)) (fun y y1 y2 => by rw [hx3 y (by omega), hx2 y (by omega)])) (mU1.ren hc hfree) (fun j hj => ⟨(hrw j hj).1.kept fun y y1 y2 => by rw [hx3 y (by omega), hx2 y (by omega)], (hrw j hj).2.kept fun y y1 y2 => by rw [hx3 y (by omega), hx2 y (by omega)]⟩) (fun q hq => by rw [ho3 q (by omega), ho2 q (by omega), ho1 q hq])
  have chk : ∀ (d i : Nat), i ≤ nb → nb - i < d → ∀ (w3 : Option Value) (G1 : pmG) (f1 : Nat → Int32), G1 m = some (.inr (kMo, moFs m (chI ch) (nI nb))) → G1 (m + 1) = some (.inl (0, 4387, .inl f1)) → G1 (m + 2) = some (.inl (0, 6, .inl (fun j => nI (cu j)))) → G1 (m + 3) = some (.inl (0, 6, .inl (fun j => nI (nu j)))) → G1 (m + 4) = some (.inl (0, 41, .inl (fun j => nI (no j)))) → G1 (m + 5) = some (.inl (0, 41, .inl (fun j => nI (co j)))) → G1 (m + 6) = some (.inl (1, 5, .inl (fun j => pB (tk j = true)))) → G1 (m + 7) = some (.inl (0, 5, .inl (fun j => nI (kd j)))) → G1 (m + 8) = some (.inl (0, 5, .inl vl)) → G1 (m + 9) = some (.inl (0, 5, .inl on)) → G1 (m + 10) = some (.inl (1, 5, .inl (fun j => pB (rp j = true)))) → G1 (m + 11) = some (.inl (0, 3, .inl me)) → G1 (m + 12) = some (.inl (0, 3, .inl (fun j => nI (dp j)))) → G1 (m + 13) = some (.inl (0, 15, .inl (fun j => nI (fr j)))) → G1 (m + 14) = some (.inl (0, 15, .inl (fun j => nI (fm j)))) → G1 (m + 15) = some (.inl (0, 15, .inl (fun j => nI (pl j)))) → G1 (m + 16) = some (.inl (0, 15, .inl sm)) → G1 (m + 17) = some (.inl (0, 3, .inl rs)) → isRow f1 0 D → moLs f1 cu nu no co ld → moBs f1 me nb bt → moHs f1 no co dp fr fm pl sm rs th → (∀ j, j < i → swR ld trs (bt j).1 (bt j).2 = 0) → (∀ j, j < i → isRow f1 (10 + j) (dTr trs (bt j).2 (bt j).1) ∧ isRow f1 (13 + j) (dOr trs (bt j).2 (bt j).1)) → (∀ q, (q < m ∨ m + 18 ≤ q) → G1 q = G q) → pV Γ m_Mo_swap 4 [some (.ref m), some (.int (nI 0)), some (.int (nI i)), w3] [] n G1 0 0 Q := by
    intro d
    induction d with
    | zero => intro i _ hd; exact absurd hd (by omega)
    | succ d ih =>
      intro i hi hd w3 G1 f1 hH hF hCu hNu hNo hCo hTk hKd hVl hOn hRp hMe hDp hFr hFm hPl hSm hRs mD1 mL1 mB1 mH1 hall hrw ho1
      refine V_iload_n d_Mo_swap_4 rfl ?_
      refine V_aload_n d_Mo_swap_5 rfl ?_
      refine V_getf d_Mo_swap_6 f_Mo_140 hH rfl ?_
      refine V_icmp_geN (tgt := 87) d_Mo_swap_9 (by decide) (by omega) (by omega) (fun hb9 => ?_) (fun hb9 => ?_)
      · refine V_iconst (v := nI 0) d_Mo_swap_87 (by decide +kernel) ?_
        refine V_istore_n d_Mo_swap_88 (Nat.le_of_ble_eq_true rfl) ?_
        show pV Γ _ _ [some (.ref m), some (.int (nI 0)), some (.int (nI 0)), w3] _ _ _ _ _ _
        exact inst (fun j hj => hall j (by omega)) (nb + 1) 0 (by omega) (by omega) _ G1 f1 cu nu no co hH hF hCu hNu hNo hCo hTk hKd hVl hOn hRp hMe hDp hFr hFm hPl hSm hRs mD1 mL1 mH1 (mU.mono (by omega)) (fun j hj => hrw j (by omega)) ho1
      · refine V_iload_n d_Mo_swap_12 rfl ?_
        refine V_if_neN (tgt := 87) d_Mo_swap_13 (by decide) (by omega) (fun h => absurd h (by omega)) (fun _ => ?_)
        refine V_aload_n d_Mo_swap_16 rfl ?_
        refine V_bipush (v := nI 7) d_Mo_swap_17 (by decide +kernel) ?_
        refine V_iload_n d_Mo_swap_19 rfl ?_
        refine V_iaddN d_Mo_swap_20 ?_
        refine V_bipush (v := nI 10) d_Mo_swap_21 (by decide +kernel) ?_
        refine V_iload_n d_Mo_swap_23 rfl ?_
        refine V_iaddN d_Mo_swap_24 ?_
        refine V_callV (As := [.int (nI (7 + i)), .int (nI (10 + i))]) (rest := []) (lo' := [some (.ref m), some (.int (nI (7 + i))), some (.int (nI (10 + i))), none]) (bc1 := 0) (bs1 := 0) (bc' := 0) (bs' := 0) d_Mo_swap_25 k_Mo_swap_81 hH rfl rfl rfl rfl (by rfl) (by rfl) ?_
        refine c_Mo_transcribe hH hF (by omega) (by omega) (by omega) (fun G2 g2 hF2 hc2 hx2 ho2 => ?_)
        have hH := (ho2 _ (by omega)).trans hH
        have hCu := (ho2 _ (by omega)).trans hCu
        have hNu := (ho2 _ (by omega)).trans hNu
        have hNo := (ho2 _ (by omega)).trans hNo
        have hCo := (ho2 _ (by omega)).trans hCo
        have hTk := (ho2 _ (by omega)).trans hTk
        have hKd := (ho2 _ (by omega)).trans hKd
        have hVl := (ho2 _ (by omega)).trans hVl
        have hOn := (ho2 _ (by omega)).trans hOn
        have hRp := (ho2 _ (by omega)).trans hRp
        have hMe := (ho2 _ (by omega)).trans hMe
        have hDp := (ho2 _ (by omega)).trans hDp
        have hFr := (ho2 _ (by omega)).trans hFr
        have hFm := (ho2 _ (by omega)).trans hFm
        have hPl := (ho2 _ (by omega)).trans hPl
        have hSm := (ho2 _ (by omega)).trans hSm
        have hRs := (ho2 _ (by omega)).trans hRs
        have hF := hF2
        have R1 : isRow g2 (10 + i) (bt i).2 := (mB1.2 i (by omega)).1.cpy hc2
        show pV Γ m_Mo_swap 28 [some (.ref m), some (.int (nI 0)), some (.int (nI i)), w3] [] _ G2 0 0 Q
        refine V_aload_n d_Mo_swap_28 rfl ?_
        refine V_bipush (v := nI 10) d_Mo_swap_29 (by decide +kernel) ?_
        refine V_iload_n d_Mo_swap_31 rfl ?_
        refine V_iaddN d_Mo_swap_32 ?_
        refine V_bipush (v := nI 13) d_Mo_swap_33 (by decide +kernel) ?_
        refine V_iload_n d_Mo_swap_35 rfl ?_
        refine V_iaddN d_Mo_swap_36 ?_
        refine V_aload_n d_Mo_swap_37 rfl ?_
        refine V_getf d_Mo_swap_38 f_Mo_45 hH rfl ?_
        refine V_iload_n d_Mo_swap_41 rfl ?_
        obtain ⟨c, hc, hx, L, hl⟩ := hbl i (by omega)
        have hme : me i = nI c := (mB.2 i (by omega)).2.trans hx
        have hdE := (hg c L hc hl).2.1
        refine V_iaload (j := i) d_Mo_swap_42 rfl hMe rfl (by omega) (by omega) ?_
        rw [hme]
        show pV Γ _ _ [some (.ref m), some (.int (nI 0)), some (.int (nI i)), w3] (.int (nI c) :: [.int (nI (13 + i)), .int (nI (10 + i)), .ref m]) _ _ _ _ _
        refine V_callV (As := [.int (nI (10 + i)), .int (nI (13 + i)), .int (nI c)]) (rest := []) (lo' := [some (.ref m), some (.int (nI (10 + i))), some (.int (nI (13 + i))), some (.int (nI c))]) (bc1 := 0) (bs1 := 0) (bc' := 0) (bs' := 0) d_Mo_swap_43 k_Mo_swap_134 hH rfl rfl rfl rfl (by rfl) (by rfl) ?_
        refine c_Mo_treat hH hF hTk hKd hVl hOn hRp (by omega) (by omega) (by omega) (fun k hk => (mT' k hk).2.1) R1 (fun G3 g3 hF3 hR3 hS3 hx3 ho3 => ?_)
        have hH := (ho3 _ (by omega)).trans hH
        have hCu := (ho3 _ (by omega)).trans hCu
        have hNu := (ho3 _ (by omega)).trans hNu
        have hNo := (ho3 _ (by omega)).trans hNo
        have hCo := (ho3 _ (by omega)).trans hCo
        have hTk := (ho3 _ (by omega)).trans hTk
        have hKd := (ho3 _ (by omega)).trans hKd
        have hVl := (ho3 _ (by omega)).trans hVl
        have hOn := (ho3 _ (by omega)).trans hOn
        have hRp := (ho3 _ (by omega)).trans hRp
        have hMe := (ho3 _ (by omega)).trans hMe
        have hDp := (ho3 _ (by omega)).trans hDp
        have hFr := (ho3 _ (by omega)).trans hFr
        have hFm := (ho3 _ (by omega)).trans hFm
        have hPl := (ho3 _ (by omega)).trans hPl
        have hSm := (ho3 _ (by omega)).trans hSm
        have hRs := (ho3 _ (by omega)).trans hRs
        have hF := hF3
        rw [mT'.tr, ← hx] at hR3
        rw [mT'.or, ← hx] at hS3
        have mL3 : moLs g3 cu nu no co ld := mL1.kept (fun y y1 y2 => by rw [hx3 y (by omega), hx2 y (by omega)])
        have hal := swR_le ld trs (bt i).1 (bt i).2
        show pV Γ m_Mo_swap 46 [some (.ref m), some (.int (nI 0)), some (.int (nI i)), w3] [] _ G3 0 0 Q
        refine V_aload_n d_Mo_swap_46 rfl ?_
        refine V_bipush (v := nI 10) d_Mo_swap_47 (by decide +kernel) ?_
        refine V_iload_n d_Mo_swap_49 rfl ?_
        refine V_iaddN d_Mo_swap_50 ?_
        refine V_aload_n d_Mo_swap_51 rfl ?_
        refine V_getf d_Mo_swap_52 f_Mo_45 hH rfl ?_
        refine V_iload_n d_Mo_swap_55 rfl ?_
        refine V_iaload (j := i) d_Mo_swap_56 rfl hMe rfl (by omega) (by omega) ?_
        rw [hme]
        show pV Γ _ _ [some (.ref m), some (.int (nI 0)), some (.int (nI i)), w3] (.int (nI c) :: [.int (nI (10 + i)), .ref m]) _ _ _ _ _
        refine V_callV (As := [.int (nI (10 + i)), .int (nI c)]) (rest := []) (lo' := [some (.ref m), some (.int (nI (10 + i))), some (.int (nI c)), none, none]) (bc1 := 0) (bs1 := 0) (bc' := 0) (bs' := 0) d_Mo_swap_57 k_Mo_swap_143 hH rfl rfl rfl rfl (by rfl) (by rfl) ?_
        refine c_Mo_rules hH hF hCu (by omega) hc hl hR3 mL3.1 hdE ?_
        rw [← hx, ← swR_some hc hx hl]
        show pV Γ m_Mo_swap 60 [some (.ref m), some (.int (nI 0)), some (.int (nI i)), w3] [.int (nI (swR ld trs (bt i).1 (bt i).2))] _ G3 0 0 Q
        refine V_istore_n d_Mo_swap_60 (Nat.le_of_ble_eq_true rfl) ?_
        show pV Γ _ _ [some (.ref m), some (.int (nI 0)), some (.int (nI i)), some (.int (nI (swR ld trs (bt i).1 (bt i).2)))] _ _ _ _ _ _
        refine V_iload_n d_Mo_swap_61 rfl ?_
        refine V_if_leN (tgt := 79) d_Mo_swap_62 (by decide) (by omega) (fun hb62 => ?_) (fun hb62 => ?_)
        · refine V_iconst (v := nI 0) d_Mo_swap_79 (by decide +kernel) ?_
          refine V_istore_n d_Mo_swap_80 (Nat.le_of_ble_eq_true rfl) ?_
          show pV Γ _ _ [some (.ref m), some (.int (nI 0)), some (.int (nI i)), some (.int (nI (swR ld trs (bt i).1 (bt i).2)))] _ _ _ _ _ _
          refine V_iincN d_Mo_swap_81 rfl ?_
          show pV Γ _ _ [some (.ref m), some (.int (nI 0)), some (.int (nI (i + 1))), some (.int (nI (swR ld trs (bt i).1 (bt i).2)))] _ _ _ _ _ _
          refine V_goto (tgt := 4) d_Mo_swap_84 (by decide) ?_
          refine ih (i + 1) (by omega) (by omega) _ G3 g3 hH hF hCu hNu hNo hCo hTk hKd hVl hOn hRp hMe hDp hFr hFm hPl hSm hRs (mD1.kept (fun y y1 y2 => by rw [hx3 y (by omega), hx2 y (by omega)])) mL3 (mB1.kept (fun y y1 y2 => by rw [hx3 y (by omega), hx2 y (by omega)])) (mH1.kept (fun y y1 => by rw [hx3 y (by omega), hx2 y (by omega)])) (fun j hj => ?_) (fun j hj => ?_) (fun q hq => by rw [ho3 q (by omega), ho2 q (by omega), ho1 q hq])
          · by_cases e : j = i
            · rw [e]; exact hb62
            · exact hall j (by omega)
          · by_cases e : j = i
            · rw [e]; exact ⟨hR3, hS3⟩
            · exact ⟨(hrw j (by omega)).1.kept (fun y y1 y2 => by rw [hx3 y (by omega), hx2 y (by omega)]), (hrw j (by omega)).2.kept (fun y y1 y2 => by rw [hx3 y (by omega), hx2 y (by omega)])⟩
        · refine V_bipush (v := nI 16) d_Mo_swap_65 (by decide +kernel) ?_
          refine V_aload_n d_Mo_swap_67 rfl ?_
          refine V_getf d_Mo_swap_68 f_Mo_45 hH rfl ?_
          refine V_iload_n d_Mo_swap_71 rfl ?_
          refine V_iaload (j := i) d_Mo_swap_72 rfl hMe rfl (by omega) (by omega) ?_
          rw [hme]
          show pV Γ _ _ [some (.ref m), some (.int (nI 0)), some (.int (nI i)), some (.int (nI (swR ld trs (bt i).1 (bt i).2)))] (.int (nI c) :: [.int (nI 16)]) _ _ _ _ _
          refine V_imulN d_Mo_swap_73 ?_
          refine V_iload_n d_Mo_swap_74 rfl ?_
          refine V_iaddN d_Mo_swap_75 ?_
          refine V_goto (tgt := 80) d_Mo_swap_76 (by decide) ?_
          refine V_istore_n d_Mo_swap_80 (Nat.le_of_ble_eq_true rfl) ?_
          show pV Γ _ _ [some (.ref m), some (.int (nI (16 * c + (swR ld trs (bt i).1 (bt i).2)))), some (.int (nI i)), some (.int (nI (swR ld trs (bt i).1 (bt i).2)))] _ _ _ _ _ _
          refine V_iincN d_Mo_swap_81 rfl ?_
          show pV Γ _ _ [some (.ref m), some (.int (nI (16 * c + (swR ld trs (bt i).1 (bt i).2)))), some (.int (nI (i + 1))), some (.int (nI (swR ld trs (bt i).1 (bt i).2)))] _ _ _ _ _ _
          refine V_goto (tgt := 4) d_Mo_swap_84 (by decide) ?_
          refine c_swapF hH (by omega) (by omega) (by omega) mB.1 (fun G' b1 b2 => ?_)
          have k := hB i (by omega) (by omega) hall G' ⟨g3, cu, nu, no, co, tk, kd, vl, on, rp, me, dp, fr, fm, pl, sm, rs, ⟨b1, ((b2 _ (by omega)).trans hF), ((b2 _ (by omega)).trans hCu), ((b2 _ (by omega)).trans hNu), ((b2 _ (by omega)).trans hNo), ((b2 _ (by omega)).trans hCo), ((b2 _ (by omega)).trans hTk), ((b2 _ (by omega)).trans hKd), ((b2 _ (by omega)).trans hVl), ((b2 _ (by omega)).trans hOn), ((b2 _ (by omega)).trans hRp), ((b2 _ (by omega)).trans hMe), ((b2 _ (by omega)).trans hDp), ((b2 _ (by omega)).trans hFr), ((b2 _ (by omega)).trans hFm), ((b2 _ (by omega)).trans hPl), ((b2 _ (by omega)).trans hSm), ((b2 _ (by omega)).trans hRs)⟩, mD1.kept (fun y y1 y2 => by rw [hx3 y (by omega), hx2 y (by omega)]), mL3, mT', ⟨Nat.zero_le _, fun j hj => absurd hj (Nat.not_lt_zero _)⟩, mH1.kept (fun y y1 => by rw [hx3 y (by omega), hx2 y (by omega)]), mU⟩ (fun q hq => by rw [b2 q (by omega), ho3 q (by omega), ho2 q (by omega), ho1 q hq])
          rw [hx, pk_mul, nI_add] at k
          rw [← hx] at k
          exact k
  refine V_iconst (v := nI 0) d_Mo_swap_0 (by decide +kernel) ?_
  refine V_istore_n d_Mo_swap_1 (Nat.le_of_ble_eq_true rfl) ?_
  show pV Γ _ _ [some (.ref m), some (.int (nI 0)), none, none] _ _ _ _ _ _
  refine V_iconst (v := nI 0) d_Mo_swap_2 (by decide +kernel) ?_
  refine V_istore_n d_Mo_swap_3 (Nat.le_of_ble_eq_true rfl) ?_
  show pV Γ _ _ [some (.ref m), some (.int (nI 0)), some (.int (nI 0)), none] _ _ _ _ _ _
  exact chk (nb + 1) 0 (by omega) (by omega) _ G f hH hF hCu hNu hNo hCo hTk hKd hVl hOn hRp hMe hDp hFr hFm hPl hSm hRs mD mL mB mH (fun j hj => absurd hj (Nat.not_lt_zero _)) (fun j hj => absurd hj (Nat.not_lt_zero _)) (fun q _ => rfl)
