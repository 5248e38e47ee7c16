/-! The law: every case of its switch. -/
theorem isMo.hd {G : pmG} {m : Nat} {D : Dfn} {ch : Option Nat} {ld : LdS} {trs : Nat → Trf} {nb : Nat} {bt : Nat → Int32 × Dfn} {th : Nat → Thr} {N : Nat} (mo : isMo G m D ch ld trs nb bt th N) : G m = some (.inr (kMo, moFs m (chI ch) (nI nb))) := by
  obtain ⟨f, cu, nu, no, co, tk, kd, vl, on, rp, me, dp, fr, fm, pl, sm, rs, hr, -⟩ := mo
  exact hr.1
theorem isMo.mono {G : pmG} {m : Nat} {D : Dfn} {ch : Option Nat} {ld : LdS} {trs : Nat → Trf} {nb : Nat} {bt : Nat → Int32 × Dfn} {th : Nat → Thr} {N M : Nat} (mo : isMo G m D ch ld trs nb bt th N) (h : N ≤ M) : isMo G m D ch ld trs nb bt th M := by
  obtain ⟨f, cu, nu, no, co, tk, kd, vl, on, rp, me, dp, fr, fm, pl, sm, rs, hr, mD, mL, mT', mB, mH, mU⟩ := mo
  exact ⟨f, cu, nu, no, co, tk, kd, vl, on, rp, me, dp, fr, fm, pl, sm, rs, hr, mD, mL, mT', mB, mH, mU.mono h⟩
theorem isMo.ok {G : pmG} {m : Nat} {D : Dfn} {ch : Option Nat} {ld : LdS} {trs : Nat → Trf} {nb : Nat} {bt : Nat → Int32 × Dfn} {th : Nat → Thr} {N : Nat} (mo : isMo G m D ch ld trs nb bt th N) : dOk D ∧ (∀ i, i < nb → dOk (bt i).2) ∧ (∀ c L, c < 6 → ld c = some L → dOk L.2.1 ∧ dOk L.2.2) := by
  obtain ⟨f, cu, nu, no, co, tk, kd, vl, on, rp, me, dp, fr, fm, pl, sm, rs, hr, mD, mL, mT', mB, mH, mU⟩ := mo
  exact ⟨mD.1, fun i hi => (mB.2 i hi).1.1, fun c L hc hl => ⟨((mL.1 c hc).1 L hl).2.2.1, ((mL.2 c hc).1 L hl).2.2.2.1⟩⟩
theorem dChg_nm (k : Nat) (v : Int32) (D : Dfn) : dNm (dChg k v D) = dNm D := by
  unfold dChg
  split
  · rfl
  · split
    · rfl
    · split
      · by_cases e : ∃ j, j < dNm D ∧ dN D j = v
        · rw [pI_t e]; rfl
        · rw [pI_f e]
      · split
        · split
          · rfl
          · rfl
        · rfl
theorem dChgs_nm (trs : Nat → Trf) (c : Int32) (rp : Bool) (D : Dfn) : ∀ k, dNm (dChgs trs c rp D k) = dNm D
  | 0 => rfl
  | k + 1 => by
    show dNm (pI ((trs k).1 = true ∧ (trs k).2.2.2.2 = rp ∧ ((trs k).2.2.2.1 = -1 ∨ (trs k).2.2.2.1 = c)) (dChg (trs k).2.1 (trs k).2.2.1 (dChgs trs c rp D k)) (dChgs trs c rp D k)) = _
    by_cases e : (trs k).1 = true ∧ (trs k).2.2.2.2 = rp ∧ ((trs k).2.2.2.1 = -1 ∨ (trs k).2.2.2.1 = c)
    · rw [pI_t e, dChg_nm, dChgs_nm trs c rp D k]
    · rw [pI_f e, dChgs_nm trs c rp D k]
theorem dTr_nm (trs : Nat → Trf) (D : Dfn) (c : Int32) : dNm (dTr trs D c) = dNm D := by
  unfold dTr
  rw [dChgs_nm, dChgs_nm]
def lwS (G : pmG) (h n N : Nat) : Prop := ∃ f D ch ld trs nb bt th, isDk G h (h + 238) n f D ch ld trs nb bt th ∧ isMo G (h + 220) D ch ld trs nb bt th N ∧ aInv ld nb bt th
set_option maxHeartbeats 1000000 in
theorem lw_case0 {Γ : pmE} {G : pmG} {n : Nat} {Q : pmPost} {h i N bc bs bR sR : Nat} (hL : Γ.2.2.2.2.1 ≤ 2560) (hi : i + 5 ≤ Γ.2.2.2.2.1) (hN : N < 2 ^ 31) (hbc : bR + 35 ≤ bc) (hbs : sR + 249 ≤ bs) (hn : h + 238 ≤ n) (hS : lwS G h n N) (next : ∀ n' G' bc' bs', lwS G' h n' (N + 3) → bR ≤ bc' → sR ≤ bs' → h + 238 ≤ n' → pV Γ m_Lw_law 702 [some (.ref Γ.2.2.2.1), some (.ref h), some (.ref (h + 220)), some (.int (nI i))] [] n' G' bc' bs' Q) : pV Γ m_Lw_law 128 [some (.ref Γ.2.2.2.1), some (.ref h), some (.ref (h + 220)), some (.int (nI i))] [] n G bc bs Q := by
  obtain ⟨f, D, ch, ld, trs, nb, bt, th, dk, mo, iv⟩ := hS
  refine V_aload_n d_Lw_law_128 rfl ?_
  refine V_callV (As := []) (rest := []) (lo' := [some (.ref h)]) (bc1 := 0) (bs1 := 0) (bc' := bc) (bs' := bs) d_Lw_law_129 k_Lw_law_13 dk.1 rfl rfl rfl rfl (by omega) (by omega) ?_
  refine c_HE_blank dk (fun G1 dk1 ho1 => ?_)
  · have mo := mo.kept (fun q q1 q2 => ho1 q (by omega))
    have dk := dk1
    show pV Γ m_Lw_law 132 [some (.ref Γ.2.2.2.1), some (.ref h), some (.ref (h + 220)), some (.int (nI i))] [] _ G1 bc bs Q
    refine V_aload_n d_Lw_law_132 rfl ?_
    refine V_callV (As := []) (rest := []) (lo' := [some (.ref (h + 220)), none]) (bc1 := 0) (bs1 := 0) (bc' := bc) (bs' := bs) d_Lw_law_133 k_Lw_law_16 mo.hd rfl rfl rfl rfl (by omega) (by omega) ?_
    refine cm_blank mo (fun G2 mo2 ho2 => ?_)
    · have dk := dk.kept (fun q hq => ho2 q (by omega))
      have mo := mo2
      show pV Γ m_Lw_law 136 [some (.ref Γ.2.2.2.1), some (.ref h), some (.ref (h + 220)), some (.int (nI i))] [] _ G2 bc bs Q
      refine V_goto (tgt := 702) d_Lw_law_136 (by decide) ?_
      exact next _ _ _ _ ⟨_, _, _, _, _, _, _, _, dk, mo.mono (by omega), iv⟩ (by omega) (by omega) (by omega)
set_option maxHeartbeats 1000000 in
theorem lw_case1 {Γ : pmE} {G : pmG} {n : Nat} {Q : pmPost} {h i N bc bs bR sR : Nat} (hL : Γ.2.2.2.2.1 ≤ 2560) (hi : i + 5 ≤ Γ.2.2.2.2.1) (hN : N < 2 ^ 31) (hbc : bR + 35 ≤ bc) (hbs : sR + 249 ≤ bs) (hn : h + 238 ≤ n) (hS : lwS G h n N) (next : ∀ n' G' bc' bs', lwS G' h n' (N + 3) → bR ≤ bc' → sR ≤ bs' → h + 238 ≤ n' → pV Γ m_Lw_law 702 [some (.ref Γ.2.2.2.1), some (.ref h), some (.ref (h + 220)), some (.int (nI i))] [] n' G' bc' bs' Q) : pV Γ m_Lw_law 139 [some (.ref Γ.2.2.2.1), some (.ref h), some (.ref (h + 220)), some (.int (nI i))] [] n G bc bs Q := by
  obtain ⟨f, D, ch, ld, trs, nb, bt, th, dk, mo, iv⟩ := hS
  refine V_aload_n d_Lw_law_139 rfl ?_
  refine V_aload_n d_Lw_law_140 rfl ?_
  refine V_iload_n d_Lw_law_141 rfl ?_
  refine V_iconst (v := nI 1) d_Lw_law_142 (by decide +kernel) ?_
  refine V_iaddN d_Lw_law_143 ?_
  refine V_sld (j := i + 1) d_Lw_law_144 rfl (by omega) (by omega) ?_
  refine V_callV (As := [.int ((Γ.2.2.2.2.2 (i + 1)))]) (rest := []) (lo' := [some (.ref h), some (.int ((Γ.2.2.2.2.2 (i + 1)))), none]) (bc1 := 0) (bs1 := 0) (bc' := bc) (bs' := bs) d_Lw_law_145 k_Lw_law_17 dk.1 rfl rfl rfl rfl (by omega) (by omega) ?_
  refine c_HE_copy dk (fun e => ?_) (fun c L hc hx hl G1 dk1 ho1 => ?_)
  · show pV Γ m_Lw_law 148 [some (.ref Γ.2.2.2.1), some (.ref h), some (.ref (h + 220)), some (.int (nI i))] [.int (nI 0)] _ G bc bs Q
    refine V_aload_n d_Lw_law_148 rfl ?_
    refine V_aload_n d_Lw_law_149 rfl ?_
    refine V_iload_n d_Lw_law_150 rfl ?_
    refine V_iconst (v := nI 1) d_Lw_law_151 (by decide +kernel) ?_
    refine V_iaddN d_Lw_law_152 ?_
    refine V_sld (j := i + 1) d_Lw_law_153 rfl (by omega) (by omega) ?_
    refine V_callV (As := [.int ((Γ.2.2.2.2.2 (i + 1)))]) (rest := [.int (nI 0)]) (lo' := [some (.ref (h + 220)), some (.int ((Γ.2.2.2.2.2 (i + 1))))]) (bc1 := 0) (bs1 := 0) (bc' := bc) (bs' := bs) d_Lw_law_154 k_Lw_law_21 mo.hd rfl rfl rfl rfl (by omega) (by omega) ?_
    refine cm_copy mo (fun e' => ?_) (fun c' L' hc' hx' hl' G2 mo2 ho2 => ?_)
    · show pV Γ m_Lw_law 157 [some (.ref Γ.2.2.2.1), some (.ref h), some (.ref (h + 220)), some (.int (nI i))] [.int (nI 0), .int (nI 0)] _ G bc bs Q
      refine V_icmp_eq (tgt := 702) d_Lw_law_157 (by decide) (fun _ => ?_) (fun e => absurd rfl e)
      exact next _ _ _ _ ⟨_, _, _, _, _, _, _, _, dk, mo.mono (by omega), iv⟩ (by omega) (by omega) (by omega)
    · exact absurd ⟨c', hc', hx', L', hl'⟩ e
  · have mo := mo.kept (fun q q1 q2 => ho1 q (by omega))
    have dk := dk1
    show pV Γ m_Lw_law 148 [some (.ref Γ.2.2.2.1), some (.ref h), some (.ref (h + 220)), some (.int (nI i))] [.int (nI 1)] _ G1 bc bs Q
    refine V_aload_n d_Lw_law_148 rfl ?_
    refine V_aload_n d_Lw_law_149 rfl ?_
    refine V_iload_n d_Lw_law_150 rfl ?_
    refine V_iconst (v := nI 1) d_Lw_law_151 (by decide +kernel) ?_
    refine V_iaddN d_Lw_law_152 ?_
    refine V_sld (j := i + 1) d_Lw_law_153 rfl (by omega) (by omega) ?_
    refine V_callV (As := [.int ((Γ.2.2.2.2.2 (i + 1)))]) (rest := [.int (nI 1)]) (lo' := [some (.ref (h + 220)), some (.int ((Γ.2.2.2.2.2 (i + 1))))]) (bc1 := 0) (bs1 := 0) (bc' := bc) (bs' := bs) d_Lw_law_154 k_Lw_law_21 mo.hd rfl rfl rfl rfl (by omega) (by omega) ?_
    refine cm_copy mo (fun e' => ?_) (fun c' L' hc' hx' hl' G2 mo2 ho2 => ?_)
    · exact absurd ⟨c, hc, hx, L, hl⟩ e'
    · have ec : c' = c := (nI_eq (by omega) (by omega)).mp (hx'.symm.trans hx)
      subst ec
      rw [hl] at hl'
      cases hl'
      have dk := dk.kept (fun q hq => ho2 q (by omega))
      have mo := mo2
      show pV Γ m_Lw_law 157 [some (.ref Γ.2.2.2.1), some (.ref h), some (.ref (h + 220)), some (.int (nI i))] [.int (nI 1), .int (nI 1)] _ G2 bc bs Q
      refine V_icmp_eq (tgt := 702) d_Lw_law_157 (by decide) (fun _ => ?_) (fun e => absurd rfl e)
      exact next _ _ _ _ ⟨_, _, _, _, _, _, _, _, dk, mo.mono (by omega), iv⟩ (by omega) (by omega) (by omega)
set_option maxHeartbeats 1000000 in
theorem lw_case2 {Γ : pmE} {G : pmG} {n : Nat} {Q : pmPost} {h i N bc bs bR sR : Nat} (hL : Γ.2.2.2.2.1 ≤ 2560) (hi : i + 5 ≤ Γ.2.2.2.2.1) (hN : N < 2 ^ 31) (hbc : bR + 35 ≤ bc) (hbs : sR + 249 ≤ bs) (hn : h + 238 ≤ n) (hS : lwS G h n N) (next : ∀ n' G' bc' bs', lwS G' h n' (N + 3) → bR ≤ bc' → sR ≤ bs' → h + 238 ≤ n' → pV Γ m_Lw_law 702 [some (.ref Γ.2.2.2.1), some (.ref h), some (.ref (h + 220)), some (.int (nI i))] [] n' G' bc' bs' Q) : pV Γ m_Lw_law 162 [some (.ref Γ.2.2.2.1), some (.ref h), some (.ref (h + 220)), some (.int (nI i))] [] n G bc bs Q := by
  obtain ⟨f, D, ch, ld, trs, nb, bt, th, dk, mo, iv⟩ := hS
  rcases pk_ix (Γ.2.2.2.2.2 (i + 1)) (n := 5) (by omega) with hx | hx | ⟨j, hj, hx⟩
  · refine V_aload_n d_Lw_law_162 rfl ?_
    refine V_aload_n d_Lw_law_163 rfl ?_
    refine V_iload_n d_Lw_law_164 rfl ?_
    refine V_iconst (v := nI 1) d_Lw_law_165 (by decide +kernel) ?_
    refine V_iaddN d_Lw_law_166 ?_
    refine V_sld (j := i + 1) d_Lw_law_167 rfl (by omega) (by omega) ?_
    refine V_aload_n d_Lw_law_168 rfl ?_
    refine V_iload_n d_Lw_law_169 rfl ?_
    refine V_iconst (v := nI 2) d_Lw_law_170 (by decide +kernel) ?_
    refine V_iaddN d_Lw_law_171 ?_
    refine V_sld (j := i + 2) d_Lw_law_172 rfl (by omega) (by omega) ?_
    refine V_callV (As := [.int ((Γ.2.2.2.2.2 (i + 1))), .int ((Γ.2.2.2.2.2 (i + 2)))]) (rest := []) (lo' := [some (.ref h), some (.int ((Γ.2.2.2.2.2 (i + 1)))), some (.int ((Γ.2.2.2.2.2 (i + 2))))]) (bc1 := 0) (bs1 := 0) (bc' := bc) (bs' := bs) d_Lw_law_173 k_Lw_law_22 dk.1 rfl rfl rfl rfl (by omega) (by omega) ?_
    refine c_HE_setF (Or.inl hx) ?_
    · show pV Γ m_Lw_law 176 [some (.ref Γ.2.2.2.1), some (.ref h), some (.ref (h + 220)), some (.int (nI i))] [.int (nI 0)] _ G bc bs Q
      refine V_aload_n d_Lw_law_176 rfl ?_
      refine V_aload_n d_Lw_law_177 rfl ?_
      refine V_iload_n d_Lw_law_178 rfl ?_
      refine V_iconst (v := nI 1) d_Lw_law_179 (by decide +kernel) ?_
      refine V_iaddN d_Lw_law_180 ?_
      refine V_sld (j := i + 1) d_Lw_law_181 rfl (by omega) (by omega) ?_
      refine V_aload_n d_Lw_law_182 rfl ?_
      refine V_iload_n d_Lw_law_183 rfl ?_
      refine V_iconst (v := nI 2) d_Lw_law_184 (by decide +kernel) ?_
      refine V_iaddN d_Lw_law_185 ?_
      refine V_sld (j := i + 2) d_Lw_law_186 rfl (by omega) (by omega) ?_
      refine V_callV (As := [.int ((Γ.2.2.2.2.2 (i + 1))), .int ((Γ.2.2.2.2.2 (i + 2)))]) (rest := [.int (nI 0)]) (lo' := [some (.ref (h + 220)), some (.int ((Γ.2.2.2.2.2 (i + 1)))), some (.int ((Γ.2.2.2.2.2 (i + 2))))]) (bc1 := 0) (bs1 := 0) (bc' := bc) (bs' := bs) d_Lw_law_187 k_Lw_law_26 mo.hd rfl rfl rfl rfl (by omega) (by omega) ?_
      refine c_Mo_setF (Or.inl hx) ?_
      · show pV Γ m_Lw_law 190 [some (.ref Γ.2.2.2.1), some (.ref h), some (.ref (h + 220)), some (.int (nI i))] [.int (nI 0), .int (nI 0)] _ G bc bs Q
        refine V_icmp_eq (tgt := 702) d_Lw_law_190 (by decide) (fun _ => ?_) (fun e => absurd rfl e)
        exact next _ _ _ _ ⟨_, _, _, _, _, _, _, _, dk, mo.mono (by omega), iv⟩ (by omega) (by omega) (by omega)
  · refine V_aload_n d_Lw_law_162 rfl ?_
    refine V_aload_n d_Lw_law_163 rfl ?_
    refine V_iload_n d_Lw_law_164 rfl ?_
    refine V_iconst (v := nI 1) d_Lw_law_165 (by decide +kernel) ?_
    refine V_iaddN d_Lw_law_166 ?_
    refine V_sld (j := i + 1) d_Lw_law_167 rfl (by omega) (by omega) ?_
    refine V_aload_n d_Lw_law_168 rfl ?_
    refine V_iload_n d_Lw_law_169 rfl ?_
    refine V_iconst (v := nI 2) d_Lw_law_170 (by decide +kernel) ?_
    refine V_iaddN d_Lw_law_171 ?_
    refine V_sld (j := i + 2) d_Lw_law_172 rfl (by omega) (by omega) ?_
    refine V_callV (As := [.int ((Γ.2.2.2.2.2 (i + 1))), .int ((Γ.2.2.2.2.2 (i + 2)))]) (rest := []) (lo' := [some (.ref h), some (.int ((Γ.2.2.2.2.2 (i + 1)))), some (.int ((Γ.2.2.2.2.2 (i + 2))))]) (bc1 := 0) (bs1 := 0) (bc' := bc) (bs' := bs) d_Lw_law_173 k_Lw_law_22 dk.1 rfl rfl rfl rfl (by omega) (by omega) ?_
    refine c_HE_setF (Or.inr hx) ?_
    · show pV Γ m_Lw_law 176 [some (.ref Γ.2.2.2.1), some (.ref h), some (.ref (h + 220)), some (.int (nI i))] [.int (nI 0)] _ G bc bs Q
      refine V_aload_n d_Lw_law_176 rfl ?_
      refine V_aload_n d_Lw_law_177 rfl ?_
      refine V_iload_n d_Lw_law_178 rfl ?_
      refine V_iconst (v := nI 1) d_Lw_law_179 (by decide +kernel) ?_
      refine V_iaddN d_Lw_law_180 ?_
      refine V_sld (j := i + 1) d_Lw_law_181 rfl (by omega) (by omega) ?_
      refine V_aload_n d_Lw_law_182 rfl ?_
      refine V_iload_n d_Lw_law_183 rfl ?_
      refine V_iconst (v := nI 2) d_Lw_law_184 (by decide +kernel) ?_
      refine V_iaddN d_Lw_law_185 ?_
      refine V_sld (j := i + 2) d_Lw_law_186 rfl (by omega) (by omega) ?_
      refine V_callV (As := [.int ((Γ.2.2.2.2.2 (i + 1))), .int ((Γ.2.2.2.2.2 (i + 2)))]) (rest := [.int (nI 0)]) (lo' := [some (.ref (h + 220)), some (.int ((Γ.2.2.2.2.2 (i + 1)))), some (.int ((Γ.2.2.2.2.2 (i + 2))))]) (bc1 := 0) (bs1 := 0) (bc' := bc) (bs' := bs) d_Lw_law_187 k_Lw_law_26 mo.hd rfl rfl rfl rfl (by omega) (by omega) ?_
      refine c_Mo_setF (Or.inr hx) ?_
      · show pV Γ m_Lw_law 190 [some (.ref Γ.2.2.2.1), some (.ref h), some (.ref (h + 220)), some (.int (nI i))] [.int (nI 0), .int (nI 0)] _ G bc bs Q
        refine V_icmp_eq (tgt := 702) d_Lw_law_190 (by decide) (fun _ => ?_) (fun e => absurd rfl e)
        exact next _ _ _ _ ⟨_, _, _, _, _, _, _, _, dk, mo.mono (by omega), iv⟩ (by omega) (by omega) (by omega)
  · refine V_aload_n d_Lw_law_162 rfl ?_
    refine V_aload_n d_Lw_law_163 rfl ?_
    refine V_iload_n d_Lw_law_164 rfl ?_
    refine V_iconst (v := nI 1) d_Lw_law_165 (by decide +kernel) ?_
    refine V_iaddN d_Lw_law_166 ?_
    refine V_sld (j := i + 1) d_Lw_law_167 rfl (by omega) (by omega) ?_
    refine V_aload_n d_Lw_law_168 rfl ?_
    refine V_iload_n d_Lw_law_169 rfl ?_
    refine V_iconst (v := nI 2) d_Lw_law_170 (by decide +kernel) ?_
    refine V_iaddN d_Lw_law_171 ?_
    refine V_sld (j := i + 2) d_Lw_law_172 rfl (by omega) (by omega) ?_
    refine V_callV (As := [.int ((Γ.2.2.2.2.2 (i + 1))), .int ((Γ.2.2.2.2.2 (i + 2)))]) (rest := []) (lo' := [some (.ref h), some (.int ((Γ.2.2.2.2.2 (i + 1)))), some (.int ((Γ.2.2.2.2.2 (i + 2))))]) (bc1 := 0) (bs1 := 0) (bc' := bc) (bs' := bs) d_Lw_law_173 k_Lw_law_22 dk.1 rfl rfl rfl rfl (by omega) (by omega) ?_
    rw [hx]
    refine c_HE_set dk hj (fun G1 dk1 ho1 => ?_)
    · have mo := mo.kept (fun q q1 q2 => ho1 q (by omega))
      have dk := dk1
      show pV Γ m_Lw_law 176 [some (.ref Γ.2.2.2.1), some (.ref h), some (.ref (h + 220)), some (.int (nI i))] [.int (nI 1)] _ G1 bc bs Q
      refine V_aload_n d_Lw_law_176 rfl ?_
      refine V_aload_n d_Lw_law_177 rfl ?_
      refine V_iload_n d_Lw_law_178 rfl ?_
      refine V_iconst (v := nI 1) d_Lw_law_179 (by decide +kernel) ?_
      refine V_iaddN d_Lw_law_180 ?_
      refine V_sld (j := i + 1) d_Lw_law_181 rfl (by omega) (by omega) ?_
      refine V_aload_n d_Lw_law_182 rfl ?_
      refine V_iload_n d_Lw_law_183 rfl ?_
      refine V_iconst (v := nI 2) d_Lw_law_184 (by decide +kernel) ?_
      refine V_iaddN d_Lw_law_185 ?_
      refine V_sld (j := i + 2) d_Lw_law_186 rfl (by omega) (by omega) ?_
      refine V_callV (As := [.int ((Γ.2.2.2.2.2 (i + 1))), .int ((Γ.2.2.2.2.2 (i + 2)))]) (rest := [.int (nI 1)]) (lo' := [some (.ref (h + 220)), some (.int ((Γ.2.2.2.2.2 (i + 1)))), some (.int ((Γ.2.2.2.2.2 (i + 2))))]) (bc1 := 0) (bs1 := 0) (bc' := bc) (bs' := bs) d_Lw_law_187 k_Lw_law_26 mo.hd rfl rfl rfl rfl (by omega) (by omega) ?_
      rw [hx]
      refine cm_set mo hj (fun G2 mo2 ho2 => ?_)
      · have dk := dk.kept (fun q hq => ho2 q (by omega))
        have mo := mo2
        show pV Γ m_Lw_law 190 [some (.ref Γ.2.2.2.1), some (.ref h), some (.ref (h + 220)), some (.int (nI i))] [.int (nI 1), .int (nI 1)] _ G2 bc bs Q
        refine V_icmp_eq (tgt := 702) d_Lw_law_190 (by decide) (fun _ => ?_) (fun e => absurd rfl e)
        exact next _ _ _ _ ⟨_, _, _, _, _, _, _, _, dk, mo.mono (by omega), iv⟩ (by omega) (by omega) (by omega)
set_option maxHeartbeats 1000000 in
theorem lw_case3 {Γ : pmE} {G : pmG} {n : Nat} {Q : pmPost} {h i N bc bs bR sR : Nat} (hL : Γ.2.2.2.2.1 ≤ 2560) (hi : i + 5 ≤ Γ.2.2.2.2.1) (hN : N < 2 ^ 31) (hbc : bR + 35 ≤ bc) (hbs : sR + 249 ≤ bs) (hn : h + 238 ≤ n) (hS : lwS G h n N) (next : ∀ n' G' bc' bs', lwS G' h n' (N + 3) → bR ≤ bc' → sR ≤ bs' → h + 238 ≤ n' → pV Γ m_Lw_law 702 [some (.ref Γ.2.2.2.1), some (.ref h), some (.ref (h + 220)), some (.int (nI i))] [] n' G' bc' bs' Q) : pV Γ m_Lw_law 195 [some (.ref Γ.2.2.2.1), some (.ref h), some (.ref (h + 220)), some (.int (nI i))] [] n G bc bs Q := by
  obtain ⟨f, D, ch, ld, trs, nb, bt, th, dk, mo, iv⟩ := hS
  refine V_aload_n d_Lw_law_195 rfl ?_
  refine V_aload_n d_Lw_law_196 rfl ?_
  refine V_iload_n d_Lw_law_197 rfl ?_
  refine V_iconst (v := nI 1) d_Lw_law_198 (by decide +kernel) ?_
  refine V_iaddN d_Lw_law_199 ?_
  refine V_sld (j := i + 1) d_Lw_law_200 rfl (by omega) (by omega) ?_
  refine V_callV (As := [.int ((Γ.2.2.2.2.2 (i + 1)))]) (rest := []) (lo' := [some (.ref h), some (.int ((Γ.2.2.2.2.2 (i + 1))))]) (bc1 := 0) (bs1 := 0) (bc' := bc) (bs' := bs) d_Lw_law_201 k_Lw_law_27 dk.1 rfl rfl rfl rfl (by omega) (by omega) ?_
  refine c_HE_implement dk (fun e => ?_) (fun e G1 dk1 ho1 => ?_)
  · show pV Γ m_Lw_law 204 [some (.ref Γ.2.2.2.1), some (.ref h), some (.ref (h + 220)), some (.int (nI i))] [.int (nI 0)] _ G bc bs Q
    refine V_aload_n d_Lw_law_204 rfl ?_
    refine V_aload_n d_Lw_law_205 rfl ?_
    refine V_iload_n d_Lw_law_206 rfl ?_
    refine V_iconst (v := nI 1) d_Lw_law_207 (by decide +kernel) ?_
    refine V_iaddN d_Lw_law_208 ?_
    refine V_sld (j := i + 1) d_Lw_law_209 rfl (by omega) (by omega) ?_
    refine V_callV (As := [.int ((Γ.2.2.2.2.2 (i + 1)))]) (rest := [.int (nI 0)]) (lo' := [some (.ref (h + 220)), some (.int ((Γ.2.2.2.2.2 (i + 1)))), none]) (bc1 := 0) (bs1 := 0) (bc' := bc) (bs' := bs) d_Lw_law_210 k_Lw_law_30 mo.hd rfl rfl rfl rfl (by omega) (by omega) ?_
    refine cm_implement mo (fun e' => ?_) (fun e' G2 mo2 ho2 => ?_)
    · show pV Γ m_Lw_law 213 [some (.ref Γ.2.2.2.1), some (.ref h), some (.ref (h + 220)), some (.int (nI i))] [.int (nI 0), .int (nI 0)] _ G bc bs Q
      refine V_icmp_eq (tgt := 702) d_Lw_law_213 (by decide) (fun _ => ?_) (fun e => absurd rfl e)
      exact next _ _ _ _ ⟨_, _, _, _, _, _, _, _, dk, mo.mono (by omega), iv⟩ (by omega) (by omega) (by omega)
    · exact absurd e' (by omega)
  · have mo := mo.kept (fun q q1 q2 => ho1 q (by omega))
    have dk := dk1
    show pV Γ m_Lw_law 204 [some (.ref Γ.2.2.2.1), some (.ref h), some (.ref (h + 220)), some (.int (nI i))] [.int (nI 1)] _ G1 bc bs Q
    refine V_aload_n d_Lw_law_204 rfl ?_
    refine V_aload_n d_Lw_law_205 rfl ?_
    refine V_iload_n d_Lw_law_206 rfl ?_
    refine V_iconst (v := nI 1) d_Lw_law_207 (by decide +kernel) ?_
    refine V_iaddN d_Lw_law_208 ?_
    refine V_sld (j := i + 1) d_Lw_law_209 rfl (by omega) (by omega) ?_
    refine V_callV (As := [.int ((Γ.2.2.2.2.2 (i + 1)))]) (rest := [.int (nI 1)]) (lo' := [some (.ref (h + 220)), some (.int ((Γ.2.2.2.2.2 (i + 1)))), none]) (bc1 := 0) (bs1 := 0) (bc' := bc) (bs' := bs) d_Lw_law_210 k_Lw_law_30 mo.hd rfl rfl rfl rfl (by omega) (by omega) ?_
    refine cm_implement mo (fun e' => ?_) (fun e' G2 mo2 ho2 => ?_)
    · exact absurd e' (by omega)
    · have dk := dk.kept (fun q hq => ho2 q (by omega))
      have mo := mo2
      show pV Γ m_Lw_law 213 [some (.ref Γ.2.2.2.1), some (.ref h), some (.ref (h + 220)), some (.int (nI i))] [.int (nI 1), .int (nI 1)] _ G2 bc bs Q
      refine V_icmp_eq (tgt := 702) d_Lw_law_213 (by decide) (fun _ => ?_) (fun e => absurd rfl e)
      exact next _ _ _ _ ⟨_, _, _, _, _, _, _, _, dk, mo.mono (by omega), iv⟩ (by omega) (by omega) (by omega)
set_option maxHeartbeats 1000000 in
theorem lw_case4 {Γ : pmE} {G : pmG} {n : Nat} {Q : pmPost} {h i N bc bs bR sR : Nat} (hL : Γ.2.2.2.2.1 ≤ 2560) (hi : i + 5 ≤ Γ.2.2.2.2.1) (hN : N < 2 ^ 31) (hbc : bR + 35 ≤ bc) (hbs : sR + 249 ≤ bs) (hn : h + 238 ≤ n) (hS : lwS G h n N) (next : ∀ n' G' bc' bs', lwS G' h n' (N + 3) → bR ≤ bc' → sR ≤ bs' → h + 238 ≤ n' → pV Γ m_Lw_law 702 [some (.ref Γ.2.2.2.1), some (.ref h), some (.ref (h + 220)), some (.int (nI i))] [] n' G' bc' bs' Q) : pV Γ m_Lw_law 218 [some (.ref Γ.2.2.2.1), some (.ref h), some (.ref (h + 220)), some (.int (nI i))] [] n G bc bs Q := by
  obtain ⟨f, D, ch, ld, trs, nb, bt, th, dk, mo, iv⟩ := hS
  refine V_aload_n d_Lw_law_218 rfl ?_
  refine V_aload_n d_Lw_law_219 rfl ?_
  refine V_iload_n d_Lw_law_220 rfl ?_
  refine V_iconst (v := nI 1) d_Lw_law_221 (by decide +kernel) ?_
  refine V_iaddN d_Lw_law_222 ?_
  refine V_sld (j := i + 1) d_Lw_law_223 rfl (by omega) (by omega) ?_
  refine V_aload_n d_Lw_law_224 rfl ?_
  refine V_iload_n d_Lw_law_225 rfl ?_
  refine V_iconst (v := nI 2) d_Lw_law_226 (by decide +kernel) ?_
  refine V_iaddN d_Lw_law_227 ?_
  refine V_sld (j := i + 2) d_Lw_law_228 rfl (by omega) (by omega) ?_
  refine V_aload_n d_Lw_law_229 rfl ?_
  refine V_iload_n d_Lw_law_230 rfl ?_
  refine V_iconst (v := nI 3) d_Lw_law_231 (by decide +kernel) ?_
  refine V_iaddN d_Lw_law_232 ?_
  refine V_sld (j := i + 3) d_Lw_law_233 rfl (by omega) (by omega) ?_
  refine V_callV (As := [.int ((Γ.2.2.2.2.2 (i + 1))), .int ((Γ.2.2.2.2.2 (i + 2))), .int ((Γ.2.2.2.2.2 (i + 3)))]) (rest := []) (lo' := [some (.ref h), some (.int ((Γ.2.2.2.2.2 (i + 1)))), some (.int ((Γ.2.2.2.2.2 (i + 2)))), some (.int ((Γ.2.2.2.2.2 (i + 3))))]) (bc1 := 0) (bs1 := 0) (bc' := bc) (bs' := bs) d_Lw_law_234 k_Lw_law_31 dk.1 rfl rfl rfl rfl (by omega) (by omega) ?_
  refine c_HE_field dk (fun e => ?_) (fun e G1 dk1 ho1 => ?_)
  · show pV Γ m_Lw_law 237 [some (.ref Γ.2.2.2.1), some (.ref h), some (.ref (h + 220)), some (.int (nI i))] [.int (nI 0)] _ G bc bs Q
    refine V_aload_n d_Lw_law_237 rfl ?_
    refine V_aload_n d_Lw_law_238 rfl ?_
    refine V_iload_n d_Lw_law_239 rfl ?_
    refine V_iconst (v := nI 1) d_Lw_law_240 (by decide +kernel) ?_
    refine V_iaddN d_Lw_law_241 ?_
    refine V_sld (j := i + 1) d_Lw_law_242 rfl (by omega) (by omega) ?_
    refine V_aload_n d_Lw_law_243 rfl ?_
    refine V_iload_n d_Lw_law_244 rfl ?_
    refine V_iconst (v := nI 2) d_Lw_law_245 (by decide +kernel) ?_
    refine V_iaddN d_Lw_law_246 ?_
    refine V_sld (j := i + 2) d_Lw_law_247 rfl (by omega) (by omega) ?_
    refine V_aload_n d_Lw_law_248 rfl ?_
    refine V_iload_n d_Lw_law_249 rfl ?_
    refine V_iconst (v := nI 3) d_Lw_law_250 (by decide +kernel) ?_
    refine V_iaddN d_Lw_law_251 ?_
    refine V_sld (j := i + 3) d_Lw_law_252 rfl (by omega) (by omega) ?_
    refine V_callV (As := [.int ((Γ.2.2.2.2.2 (i + 1))), .int ((Γ.2.2.2.2.2 (i + 2))), .int ((Γ.2.2.2.2.2 (i + 3)))]) (rest := [.int (nI 0)]) (lo' := [some (.ref (h + 220)), some (.int ((Γ.2.2.2.2.2 (i + 1)))), some (.int ((Γ.2.2.2.2.2 (i + 2)))), some (.int ((Γ.2.2.2.2.2 (i + 3)))), none]) (bc1 := 0) (bs1 := 0) (bc' := bc) (bs' := bs) d_Lw_law_253 k_Lw_law_35 mo.hd rfl rfl rfl rfl (by omega) (by omega) ?_
    refine cm_field mo (fun e' => ?_) (fun e' G2 mo2 ho2 => ?_)
    · show pV Γ m_Lw_law 256 [some (.ref Γ.2.2.2.1), some (.ref h), some (.ref (h + 220)), some (.int (nI i))] [.int (nI 0), .int (nI 0)] _ G bc bs Q
      refine V_icmp_eq (tgt := 702) d_Lw_law_256 (by decide) (fun _ => ?_) (fun e => absurd rfl e)
      exact next _ _ _ _ ⟨_, _, _, _, _, _, _, _, dk, mo.mono (by omega), iv⟩ (by omega) (by omega) (by omega)
    · exact absurd e' (by omega)
  · have mo := mo.kept (fun q q1 q2 => ho1 q (by omega))
    have dk := dk1
    show pV Γ m_Lw_law 237 [some (.ref Γ.2.2.2.1), some (.ref h), some (.ref (h + 220)), some (.int (nI i))] [.int (nI 1)] _ G1 bc bs Q
    refine V_aload_n d_Lw_law_237 rfl ?_
    refine V_aload_n d_Lw_law_238 rfl ?_
    refine V_iload_n d_Lw_law_239 rfl ?_
    refine V_iconst (v := nI 1) d_Lw_law_240 (by decide +kernel) ?_
    refine V_iaddN d_Lw_law_241 ?_
    refine V_sld (j := i + 1) d_Lw_law_242 rfl (by omega) (by omega) ?_
    refine V_aload_n d_Lw_law_243 rfl ?_
    refine V_iload_n d_Lw_law_244 rfl ?_
    refine V_iconst (v := nI 2) d_Lw_law_245 (by decide +kernel) ?_
    refine V_iaddN d_Lw_law_246 ?_
    refine V_sld (j := i + 2) d_Lw_law_247 rfl (by omega) (by omega) ?_
    refine V_aload_n d_Lw_law_248 rfl ?_
    refine V_iload_n d_Lw_law_249 rfl ?_
    refine V_iconst (v := nI 3) d_Lw_law_250 (by decide +kernel) ?_
    refine V_iaddN d_Lw_law_251 ?_
    refine V_sld (j := i + 3) d_Lw_law_252 rfl (by omega) (by omega) ?_
    refine V_callV (As := [.int ((Γ.2.2.2.2.2 (i + 1))), .int ((Γ.2.2.2.2.2 (i + 2))), .int ((Γ.2.2.2.2.2 (i + 3)))]) (rest := [.int (nI 1)]) (lo' := [some (.ref (h + 220)), some (.int ((Γ.2.2.2.2.2 (i + 1)))), some (.int ((Γ.2.2.2.2.2 (i + 2)))), some (.int ((Γ.2.2.2.2.2 (i + 3)))), none]) (bc1 := 0) (bs1 := 0) (bc' := bc) (bs' := bs) d_Lw_law_253 k_Lw_law_35 mo.hd rfl rfl rfl rfl (by omega) (by omega) ?_
    refine cm_field mo (fun e' => ?_) (fun e' G2 mo2 ho2 => ?_)
    · exact absurd e' (by omega)
    · have dk := dk.kept (fun q hq => ho2 q (by omega))
      have mo := mo2
      show pV Γ m_Lw_law 256 [some (.ref Γ.2.2.2.1), some (.ref h), some (.ref (h + 220)), some (.int (nI i))] [.int (nI 1), .int (nI 1)] _ G2 bc bs Q
      refine V_icmp_eq (tgt := 702) d_Lw_law_256 (by decide) (fun _ => ?_) (fun e => absurd rfl e)
      exact next _ _ _ _ ⟨_, _, _, _, _, _, _, _, dk, mo.mono (by omega), iv⟩ (by omega) (by omega) (by omega)
set_option maxHeartbeats 1000000 in
theorem lw_case5 {Γ : pmE} {G : pmG} {n : Nat} {Q : pmPost} {h i N bc bs bR sR : Nat} (hL : Γ.2.2.2.2.1 ≤ 2560) (hi : i + 5 ≤ Γ.2.2.2.2.1) (hN : N < 2 ^ 31) (hbc : bR + 35 ≤ bc) (hbs : sR + 249 ≤ bs) (hn : h + 238 ≤ n) (hS : lwS G h n N) (next : ∀ n' G' bc' bs', lwS G' h n' (N + 3) → bR ≤ bc' → sR ≤ bs' → h + 238 ≤ n' → pV Γ m_Lw_law 702 [some (.ref Γ.2.2.2.1), some (.ref h), some (.ref (h + 220)), some (.int (nI i))] [] n' G' bc' bs' Q) : pV Γ m_Lw_law 261 [some (.ref Γ.2.2.2.1), some (.ref h), some (.ref (h + 220)), some (.int (nI i))] [] n G bc bs Q := by
  obtain ⟨f, D, ch, ld, trs, nb, bt, th, dk, mo, iv⟩ := hS
  refine V_aload_n d_Lw_law_261 rfl ?_
  refine V_aload_n d_Lw_law_262 rfl ?_
  refine V_iload_n d_Lw_law_263 rfl ?_
  refine V_iconst (v := nI 1) d_Lw_law_264 (by decide +kernel) ?_
  refine V_iaddN d_Lw_law_265 ?_
  refine V_sld (j := i + 1) d_Lw_law_266 rfl (by omega) (by omega) ?_
  refine V_aload_n d_Lw_law_267 rfl ?_
  refine V_iload_n d_Lw_law_268 rfl ?_
  refine V_iconst (v := nI 2) d_Lw_law_269 (by decide +kernel) ?_
  refine V_iaddN d_Lw_law_270 ?_
  refine V_sld (j := i + 2) d_Lw_law_271 rfl (by omega) (by omega) ?_
  refine V_callV (As := [.int ((Γ.2.2.2.2.2 (i + 1))), .int ((Γ.2.2.2.2.2 (i + 2)))]) (rest := []) (lo' := [some (.ref h), some (.int ((Γ.2.2.2.2.2 (i + 1)))), some (.int ((Γ.2.2.2.2.2 (i + 2))))]) (bc1 := 0) (bs1 := 0) (bc' := bc) (bs' := bs) d_Lw_law_272 k_Lw_law_36 dk.1 rfl rfl rfl rfl (by omega) (by omega) ?_
  refine c_HE_method dk (fun e => ?_) (fun e G1 dk1 ho1 => ?_)
  · show pV Γ m_Lw_law 275 [some (.ref Γ.2.2.2.1), some (.ref h), some (.ref (h + 220)), some (.int (nI i))] [.int (nI 0)] _ G bc bs Q
    refine V_aload_n d_Lw_law_275 rfl ?_
    refine V_aload_n d_Lw_law_276 rfl ?_
    refine V_iload_n d_Lw_law_277 rfl ?_
    refine V_iconst (v := nI 1) d_Lw_law_278 (by decide +kernel) ?_
    refine V_iaddN d_Lw_law_279 ?_
    refine V_sld (j := i + 1) d_Lw_law_280 rfl (by omega) (by omega) ?_
    refine V_aload_n d_Lw_law_281 rfl ?_
    refine V_iload_n d_Lw_law_282 rfl ?_
    refine V_iconst (v := nI 2) d_Lw_law_283 (by decide +kernel) ?_
    refine V_iaddN d_Lw_law_284 ?_
    refine V_sld (j := i + 2) d_Lw_law_285 rfl (by omega) (by omega) ?_
    refine V_callV (As := [.int ((Γ.2.2.2.2.2 (i + 1))), .int ((Γ.2.2.2.2.2 (i + 2)))]) (rest := [.int (nI 0)]) (lo' := [some (.ref (h + 220)), some (.int ((Γ.2.2.2.2.2 (i + 1)))), some (.int ((Γ.2.2.2.2.2 (i + 2)))), none]) (bc1 := 0) (bs1 := 0) (bc' := bc) (bs' := bs) d_Lw_law_286 k_Lw_law_39 mo.hd rfl rfl rfl rfl (by omega) (by omega) ?_
    refine cm_method mo (fun e' => ?_) (fun e' G2 mo2 ho2 => ?_)
    · show pV Γ m_Lw_law 289 [some (.ref Γ.2.2.2.1), some (.ref h), some (.ref (h + 220)), some (.int (nI i))] [.int (nI 0), .int (nI 0)] _ G bc bs Q
      refine V_icmp_eq (tgt := 702) d_Lw_law_289 (by decide) (fun _ => ?_) (fun e => absurd rfl e)
      exact next _ _ _ _ ⟨_, _, _, _, _, _, _, _, dk, mo.mono (by omega), iv⟩ (by omega) (by omega) (by omega)
    · exact absurd e' (by omega)
  · have mo := mo.kept (fun q q1 q2 => ho1 q (by omega))
    have dk := dk1
    show pV Γ m_Lw_law 275 [some (.ref Γ.2.2.2.1), some (.ref h), some (.ref (h + 220)), some (.int (nI i))] [.int (nI 1)] _ G1 bc bs Q
    refine V_aload_n d_Lw_law_275 rfl ?_
    refine V_aload_n d_Lw_law_276 rfl ?_
    refine V_iload_n d_Lw_law_277 rfl ?_
    refine V_iconst (v := nI 1) d_Lw_law_278 (by decide +kernel) ?_
    refine V_iaddN d_Lw_law_279 ?_
    refine V_sld (j := i + 1) d_Lw_law_280 rfl (by omega) (by omega) ?_
    refine V_aload_n d_Lw_law_281 rfl ?_
    refine V_iload_n d_Lw_law_282 rfl ?_
    refine V_iconst (v := nI 2) d_Lw_law_283 (by decide +kernel) ?_
    refine V_iaddN d_Lw_law_284 ?_
    refine V_sld (j := i + 2) d_Lw_law_285 rfl (by omega) (by omega) ?_
    refine V_callV (As := [.int ((Γ.2.2.2.2.2 (i + 1))), .int ((Γ.2.2.2.2.2 (i + 2)))]) (rest := [.int (nI 1)]) (lo' := [some (.ref (h + 220)), some (.int ((Γ.2.2.2.2.2 (i + 1)))), some (.int ((Γ.2.2.2.2.2 (i + 2)))), none]) (bc1 := 0) (bs1 := 0) (bc' := bc) (bs' := bs) d_Lw_law_286 k_Lw_law_39 mo.hd rfl rfl rfl rfl (by omega) (by omega) ?_
    refine cm_method mo (fun e' => ?_) (fun e' G2 mo2 ho2 => ?_)
    · exact absurd e' (by omega)
    · have dk := dk.kept (fun q hq => ho2 q (by omega))
      have mo := mo2
      show pV Γ m_Lw_law 289 [some (.ref Γ.2.2.2.1), some (.ref h), some (.ref (h + 220)), some (.int (nI i))] [.int (nI 1), .int (nI 1)] _ G2 bc bs Q
      refine V_icmp_eq (tgt := 702) d_Lw_law_289 (by decide) (fun _ => ?_) (fun e => absurd rfl e)
      exact next _ _ _ _ ⟨_, _, _, _, _, _, _, _, dk, mo.mono (by omega), iv⟩ (by omega) (by omega) (by omega)
set_option maxHeartbeats 1000000 in
theorem lw_case6 {Γ : pmE} {G : pmG} {n : Nat} {Q : pmPost} {h i N bc bs bR sR : Nat} (hL : Γ.2.2.2.2.1 ≤ 2560) (hi : i + 5 ≤ Γ.2.2.2.2.1) (hN : N < 2 ^ 31) (hbc : bR + 35 ≤ bc) (hbs : sR + 249 ≤ bs) (hn : h + 238 ≤ n) (hS : lwS G h n N) (next : ∀ n' G' bc' bs', lwS G' h n' (N + 3) → bR ≤ bc' → sR ≤ bs' → h + 238 ≤ n' → pV Γ m_Lw_law 702 [some (.ref Γ.2.2.2.1), some (.ref h), some (.ref (h + 220)), some (.int (nI i))] [] n' G' bc' bs' Q) : pV Γ m_Lw_law 294 [some (.ref Γ.2.2.2.1), some (.ref h), some (.ref (h + 220)), some (.int (nI i))] [] n G bc bs Q := by
  obtain ⟨f, D, ch, ld, trs, nb, bt, th, dk, mo, iv⟩ := hS
  have hd4 := mo.ok.1.2.2.1
  rcases pk_ix (Γ.2.2.2.2.2 (i + 1)) (n := dNm D) (by omega) with hx | hx | ⟨j, hj, hx⟩
  · refine V_aload_n d_Lw_law_294 rfl ?_
    refine V_aload_n d_Lw_law_295 rfl ?_
    refine V_iload_n d_Lw_law_296 rfl ?_
    refine V_iconst (v := nI 1) d_Lw_law_297 (by decide +kernel) ?_
    refine V_iaddN d_Lw_law_298 ?_
    refine V_sld (j := i + 1) d_Lw_law_299 rfl (by omega) (by omega) ?_
    refine V_callV (As := [.int ((Γ.2.2.2.2.2 (i + 1)))]) (rest := []) (lo' := [some (.ref h), some (.int ((Γ.2.2.2.2.2 (i + 1))))]) (bc1 := 0) (bs1 := 0) (bc' := bc) (bs' := bs) d_Lw_law_300 k_Lw_law_40 dk.1 rfl rfl rfl rfl (by omega) (by omega) ?_
    refine c_HE_chooseF dk (Or.inl hx) ?_
    · show pV Γ m_Lw_law 303 [some (.ref Γ.2.2.2.1), some (.ref h), some (.ref (h + 220)), some (.int (nI i))] [.int (nI 0)] _ G bc bs Q
      refine V_aload_n d_Lw_law_303 rfl ?_
      refine V_aload_n d_Lw_law_304 rfl ?_
      refine V_iload_n d_Lw_law_305 rfl ?_
      refine V_iconst (v := nI 1) d_Lw_law_306 (by decide +kernel) ?_
      refine V_iaddN d_Lw_law_307 ?_
      refine V_sld (j := i + 1) d_Lw_law_308 rfl (by omega) (by omega) ?_
      refine V_callV (As := [.int ((Γ.2.2.2.2.2 (i + 1)))]) (rest := [.int (nI 0)]) (lo' := [some (.ref (h + 220)), some (.int ((Γ.2.2.2.2.2 (i + 1))))]) (bc1 := 0) (bs1 := 0) (bc' := bc) (bs' := bs) d_Lw_law_309 k_Lw_law_43 mo.hd rfl rfl rfl rfl (by omega) (by omega) ?_
      refine cm_chooseF mo (Or.inl hx) ?_
      · show pV Γ m_Lw_law 312 [some (.ref Γ.2.2.2.1), some (.ref h), some (.ref (h + 220)), some (.int (nI i))] [.int (nI 0), .int (nI 0)] _ G bc bs Q
        refine V_icmp_eq (tgt := 702) d_Lw_law_312 (by decide) (fun _ => ?_) (fun e => absurd rfl e)
        exact next _ _ _ _ ⟨_, _, _, _, _, _, _, _, dk, mo.mono (by omega), iv⟩ (by omega) (by omega) (by omega)
  · refine V_aload_n d_Lw_law_294 rfl ?_
    refine V_aload_n d_Lw_law_295 rfl ?_
    refine V_iload_n d_Lw_law_296 rfl ?_
    refine V_iconst (v := nI 1) d_Lw_law_297 (by decide +kernel) ?_
    refine V_iaddN d_Lw_law_298 ?_
    refine V_sld (j := i + 1) d_Lw_law_299 rfl (by omega) (by omega) ?_
    refine V_callV (As := [.int ((Γ.2.2.2.2.2 (i + 1)))]) (rest := []) (lo' := [some (.ref h), some (.int ((Γ.2.2.2.2.2 (i + 1))))]) (bc1 := 0) (bs1 := 0) (bc' := bc) (bs' := bs) d_Lw_law_300 k_Lw_law_40 dk.1 rfl rfl rfl rfl (by omega) (by omega) ?_
    refine c_HE_chooseF dk (Or.inr hx) ?_
    · show pV Γ m_Lw_law 303 [some (.ref Γ.2.2.2.1), some (.ref h), some (.ref (h + 220)), some (.int (nI i))] [.int (nI 0)] _ G bc bs Q
      refine V_aload_n d_Lw_law_303 rfl ?_
      refine V_aload_n d_Lw_law_304 rfl ?_
      refine V_iload_n d_Lw_law_305 rfl ?_
      refine V_iconst (v := nI 1) d_Lw_law_306 (by decide +kernel) ?_
      refine V_iaddN d_Lw_law_307 ?_
      refine V_sld (j := i + 1) d_Lw_law_308 rfl (by omega) (by omega) ?_
      refine V_callV (As := [.int ((Γ.2.2.2.2.2 (i + 1)))]) (rest := [.int (nI 0)]) (lo' := [some (.ref (h + 220)), some (.int ((Γ.2.2.2.2.2 (i + 1))))]) (bc1 := 0) (bs1 := 0) (bc' := bc) (bs' := bs) d_Lw_law_309 k_Lw_law_43 mo.hd rfl rfl rfl rfl (by omega) (by omega) ?_
      refine cm_chooseF mo (Or.inr hx) ?_
      · show pV Γ m_Lw_law 312 [some (.ref Γ.2.2.2.1), some (.ref h), some (.ref (h + 220)), some (.int (nI i))] [.int (nI 0), .int (nI 0)] _ G bc bs Q
        refine V_icmp_eq (tgt := 702) d_Lw_law_312 (by decide) (fun _ => ?_) (fun e => absurd rfl e)
        exact next _ _ _ _ ⟨_, _, _, _, _, _, _, _, dk, mo.mono (by omega), iv⟩ (by omega) (by omega) (by omega)
  · refine V_aload_n d_Lw_law_294 rfl ?_
    refine V_aload_n d_Lw_law_295 rfl ?_
    refine V_iload_n d_Lw_law_296 rfl ?_
    refine V_iconst (v := nI 1) d_Lw_law_297 (by decide +kernel) ?_
    refine V_iaddN d_Lw_law_298 ?_
    refine V_sld (j := i + 1) d_Lw_law_299 rfl (by omega) (by omega) ?_
    refine V_callV (As := [.int ((Γ.2.2.2.2.2 (i + 1)))]) (rest := []) (lo' := [some (.ref h), some (.int ((Γ.2.2.2.2.2 (i + 1))))]) (bc1 := 0) (bs1 := 0) (bc' := bc) (bs' := bs) d_Lw_law_300 k_Lw_law_40 dk.1 rfl rfl rfl rfl (by omega) (by omega) ?_
    rw [hx]
    refine c_HE_choose dk hj (fun G1 dk1 ho1 => ?_)
    · have mo := mo.kept (fun q q1 q2 => ho1 q (by omega))
      have dk := dk1
      show pV Γ m_Lw_law 303 [some (.ref Γ.2.2.2.1), some (.ref h), some (.ref (h + 220)), some (.int (nI i))] [.int (nI 1)] _ G1 bc bs Q
      refine V_aload_n d_Lw_law_303 rfl ?_
      refine V_aload_n d_Lw_law_304 rfl ?_
      refine V_iload_n d_Lw_law_305 rfl ?_
      refine V_iconst (v := nI 1) d_Lw_law_306 (by decide +kernel) ?_
      refine V_iaddN d_Lw_law_307 ?_
      refine V_sld (j := i + 1) d_Lw_law_308 rfl (by omega) (by omega) ?_
      refine V_callV (As := [.int ((Γ.2.2.2.2.2 (i + 1)))]) (rest := [.int (nI 1)]) (lo' := [some (.ref (h + 220)), some (.int ((Γ.2.2.2.2.2 (i + 1))))]) (bc1 := 0) (bs1 := 0) (bc' := bc) (bs' := bs) d_Lw_law_309 k_Lw_law_43 mo.hd rfl rfl rfl rfl (by omega) (by omega) ?_
      rw [hx]
      refine cm_choose mo hj (fun G2 mo2 ho2 => ?_)
      · have dk := dk.kept (fun q hq => ho2 q (by omega))
        have mo := mo2
        show pV Γ m_Lw_law 312 [some (.ref Γ.2.2.2.1), some (.ref h), some (.ref (h + 220)), some (.int (nI i))] [.int (nI 1), .int (nI 1)] _ G2 bc bs Q
        refine V_icmp_eq (tgt := 702) d_Lw_law_312 (by decide) (fun _ => ?_) (fun e => absurd rfl e)
        exact next _ _ _ _ ⟨_, _, _, _, _, _, _, _, dk, mo.mono (by omega), iv⟩ (by omega) (by omega) (by omega)
set_option maxHeartbeats 1000000 in
theorem lw_case7 {Γ : pmE} {G : pmG} {n : Nat} {Q : pmPost} {h i N bc bs bR sR : Nat} (hL : Γ.2.2.2.2.1 ≤ 2560) (hi : i + 5 ≤ Γ.2.2.2.2.1) (hN : N < 2 ^ 31) (hbc : bR + 35 ≤ bc) (hbs : sR + 249 ≤ bs) (hn : h + 238 ≤ n) (hS : lwS G h n N) (next : ∀ n' G' bc' bs', lwS G' h n' (N + 3) → bR ≤ bc' → sR ≤ bs' → h + 238 ≤ n' → pV Γ m_Lw_law 702 [some (.ref Γ.2.2.2.1), some (.ref h), some (.ref (h + 220)), some (.int (nI i))] [] n' G' bc' bs' Q) : pV Γ m_Lw_law 317 [some (.ref Γ.2.2.2.1), some (.ref h), some (.ref (h + 220)), some (.int (nI i))] [] n G bc bs Q := by
  obtain ⟨f, D, ch, ld, trs, nb, bt, th, dk, mo, iv⟩ := hS
  have hj0 := dk.2.2.2.2.2.2.2.1
  rcases ch with _ | j
  · refine V_aload_n d_Lw_law_317 rfl ?_
    refine V_aload_n d_Lw_law_318 rfl ?_
    refine V_iload_n d_Lw_law_319 rfl ?_
    refine V_iconst (v := nI 1) d_Lw_law_320 (by decide +kernel) ?_
    refine V_iaddN d_Lw_law_321 ?_
    refine V_sld (j := i + 1) d_Lw_law_322 rfl (by omega) (by omega) ?_
    refine V_aload_n d_Lw_law_323 rfl ?_
    refine V_iload_n d_Lw_law_324 rfl ?_
    refine V_iconst (v := nI 2) d_Lw_law_325 (by decide +kernel) ?_
    refine V_iaddN d_Lw_law_326 ?_
    refine V_sld (j := i + 2) d_Lw_law_327 rfl (by omega) (by omega) ?_
    refine V_aload_n d_Lw_law_328 rfl ?_
    refine V_iload_n d_Lw_law_329 rfl ?_
    refine V_iconst (v := nI 3) d_Lw_law_330 (by decide +kernel) ?_
    refine V_iaddN d_Lw_law_331 ?_
    refine V_sld (j := i + 3) d_Lw_law_332 rfl (by omega) (by omega) ?_
    refine V_callV (As := [.int ((Γ.2.2.2.2.2 (i + 1))), .int ((Γ.2.2.2.2.2 (i + 2))), .int ((Γ.2.2.2.2.2 (i + 3)))]) (rest := []) (lo' := [some (.ref h), some (.int ((Γ.2.2.2.2.2 (i + 1)))), some (.int ((Γ.2.2.2.2.2 (i + 2)))), some (.int ((Γ.2.2.2.2.2 (i + 3))))]) (bc1 := 0) (bs1 := 0) (bc' := bc) (bs' := bs) d_Lw_law_333 k_Lw_law_44 dk.1 rfl rfl rfl rfl (by omega) (by omega) ?_
    refine c_HE_codeF dk ?_
    · show pV Γ m_Lw_law 336 [some (.ref Γ.2.2.2.1), some (.ref h), some (.ref (h + 220)), some (.int (nI i))] [.int (nI 0)] _ G bc bs Q
      refine V_aload_n d_Lw_law_336 rfl ?_
      refine V_aload_n d_Lw_law_337 rfl ?_
      refine V_iload_n d_Lw_law_338 rfl ?_
      refine V_iconst (v := nI 1) d_Lw_law_339 (by decide +kernel) ?_
      refine V_iaddN d_Lw_law_340 ?_
      refine V_sld (j := i + 1) d_Lw_law_341 rfl (by omega) (by omega) ?_
      refine V_aload_n d_Lw_law_342 rfl ?_
      refine V_iload_n d_Lw_law_343 rfl ?_
      refine V_iconst (v := nI 2) d_Lw_law_344 (by decide +kernel) ?_
      refine V_iaddN d_Lw_law_345 ?_
      refine V_sld (j := i + 2) d_Lw_law_346 rfl (by omega) (by omega) ?_
      refine V_aload_n d_Lw_law_347 rfl ?_
      refine V_iload_n d_Lw_law_348 rfl ?_
      refine V_iconst (v := nI 3) d_Lw_law_349 (by decide +kernel) ?_
      refine V_iaddN d_Lw_law_350 ?_
      refine V_sld (j := i + 3) d_Lw_law_351 rfl (by omega) (by omega) ?_
      refine V_callV (As := [.int ((Γ.2.2.2.2.2 (i + 1))), .int ((Γ.2.2.2.2.2 (i + 2))), .int ((Γ.2.2.2.2.2 (i + 3)))]) (rest := [.int (nI 0)]) (lo' := [some (.ref (h + 220)), some (.int ((Γ.2.2.2.2.2 (i + 1)))), some (.int ((Γ.2.2.2.2.2 (i + 2)))), some (.int ((Γ.2.2.2.2.2 (i + 3)))), none, none]) (bc1 := 0) (bs1 := 0) (bc' := bc) (bs' := bs) d_Lw_law_352 k_Lw_law_47 mo.hd rfl rfl rfl rfl (by omega) (by omega) ?_
      refine cm_codeF mo ?_
      · show pV Γ m_Lw_law 355 [some (.ref Γ.2.2.2.1), some (.ref h), some (.ref (h + 220)), some (.int (nI i))] [.int (nI 0), .int (nI 0)] _ G bc bs Q
        refine V_icmp_eq (tgt := 702) d_Lw_law_355 (by decide) (fun _ => ?_) (fun e => absurd rfl e)
        exact next _ _ _ _ ⟨_, _, _, _, _, _, _, _, dk, mo.mono (by omega), iv⟩ (by omega) (by omega) (by omega)
  · have hj := hj0 j rfl
    refine V_aload_n d_Lw_law_317 rfl ?_
    refine V_aload_n d_Lw_law_318 rfl ?_
    refine V_iload_n d_Lw_law_319 rfl ?_
    refine V_iconst (v := nI 1) d_Lw_law_320 (by decide +kernel) ?_
    refine V_iaddN d_Lw_law_321 ?_
    refine V_sld (j := i + 1) d_Lw_law_322 rfl (by omega) (by omega) ?_
    refine V_aload_n d_Lw_law_323 rfl ?_
    refine V_iload_n d_Lw_law_324 rfl ?_
    refine V_iconst (v := nI 2) d_Lw_law_325 (by decide +kernel) ?_
    refine V_iaddN d_Lw_law_326 ?_
    refine V_sld (j := i + 2) d_Lw_law_327 rfl (by omega) (by omega) ?_
    refine V_aload_n d_Lw_law_328 rfl ?_
    refine V_iload_n d_Lw_law_329 rfl ?_
    refine V_iconst (v := nI 3) d_Lw_law_330 (by decide +kernel) ?_
    refine V_iaddN d_Lw_law_331 ?_
    refine V_sld (j := i + 3) d_Lw_law_332 rfl (by omega) (by omega) ?_
    refine V_callV (As := [.int ((Γ.2.2.2.2.2 (i + 1))), .int ((Γ.2.2.2.2.2 (i + 2))), .int ((Γ.2.2.2.2.2 (i + 3)))]) (rest := []) (lo' := [some (.ref h), some (.int ((Γ.2.2.2.2.2 (i + 1)))), some (.int ((Γ.2.2.2.2.2 (i + 2)))), some (.int ((Γ.2.2.2.2.2 (i + 3))))]) (bc1 := 0) (bs1 := 0) (bc' := bc) (bs' := bs) d_Lw_law_333 k_Lw_law_44 dk.1 rfl rfl rfl rfl (by omega) (by omega) ?_
    refine c_HE_code dk (fun e => ?_) (fun e G1 dk1 ho1 => ?_)
    · show pV Γ m_Lw_law 336 [some (.ref Γ.2.2.2.1), some (.ref h), some (.ref (h + 220)), some (.int (nI i))] [.int (nI 0)] _ G bc bs Q
      refine V_aload_n d_Lw_law_336 rfl ?_
      refine V_aload_n d_Lw_law_337 rfl ?_
      refine V_iload_n d_Lw_law_338 rfl ?_
      refine V_iconst (v := nI 1) d_Lw_law_339 (by decide +kernel) ?_
      refine V_iaddN d_Lw_law_340 ?_
      refine V_sld (j := i + 1) d_Lw_law_341 rfl (by omega) (by omega) ?_
      refine V_aload_n d_Lw_law_342 rfl ?_
      refine V_iload_n d_Lw_law_343 rfl ?_
      refine V_iconst (v := nI 2) d_Lw_law_344 (by decide +kernel) ?_
      refine V_iaddN d_Lw_law_345 ?_
      refine V_sld (j := i + 2) d_Lw_law_346 rfl (by omega) (by omega) ?_
      refine V_aload_n d_Lw_law_347 rfl ?_
      refine V_iload_n d_Lw_law_348 rfl ?_
      refine V_iconst (v := nI 3) d_Lw_law_349 (by decide +kernel) ?_
      refine V_iaddN d_Lw_law_350 ?_
      refine V_sld (j := i + 3) d_Lw_law_351 rfl (by omega) (by omega) ?_
      refine V_callV (As := [.int ((Γ.2.2.2.2.2 (i + 1))), .int ((Γ.2.2.2.2.2 (i + 2))), .int ((Γ.2.2.2.2.2 (i + 3)))]) (rest := [.int (nI 0)]) (lo' := [some (.ref (h + 220)), some (.int ((Γ.2.2.2.2.2 (i + 1)))), some (.int ((Γ.2.2.2.2.2 (i + 2)))), some (.int ((Γ.2.2.2.2.2 (i + 3)))), none, none]) (bc1 := 0) (bs1 := 0) (bc' := bc) (bs' := bs) d_Lw_law_352 k_Lw_law_47 mo.hd rfl rfl rfl rfl (by omega) (by omega) ?_
      refine cm_code mo hj (fun e' => ?_) (fun e' G2 mo2 ho2 => ?_)
      · show pV Γ m_Lw_law 355 [some (.ref Γ.2.2.2.1), some (.ref h), some (.ref (h + 220)), some (.int (nI i))] [.int (nI 0), .int (nI 0)] _ G bc bs Q
        refine V_icmp_eq (tgt := 702) d_Lw_law_355 (by decide) (fun _ => ?_) (fun e => absurd rfl e)
        exact next _ _ _ _ ⟨_, _, _, _, _, _, _, _, dk, mo.mono (by omega), iv⟩ (by omega) (by omega) (by omega)
      · exact absurd e' (by omega)
    · have mo := mo.kept (fun q q1 q2 => ho1 q (by omega))
      have dk := dk1
      show pV Γ m_Lw_law 336 [some (.ref Γ.2.2.2.1), some (.ref h), some (.ref (h + 220)), some (.int (nI i))] [.int (nI 1)] _ G1 bc bs Q
      refine V_aload_n d_Lw_law_336 rfl ?_
      refine V_aload_n d_Lw_law_337 rfl ?_
      refine V_iload_n d_Lw_law_338 rfl ?_
      refine V_iconst (v := nI 1) d_Lw_law_339 (by decide +kernel) ?_
      refine V_iaddN d_Lw_law_340 ?_
      refine V_sld (j := i + 1) d_Lw_law_341 rfl (by omega) (by omega) ?_
      refine V_aload_n d_Lw_law_342 rfl ?_
      refine V_iload_n d_Lw_law_343 rfl ?_
      refine V_iconst (v := nI 2) d_Lw_law_344 (by decide +kernel) ?_
      refine V_iaddN d_Lw_law_345 ?_
      refine V_sld (j := i + 2) d_Lw_law_346 rfl (by omega) (by omega) ?_
      refine V_aload_n d_Lw_law_347 rfl ?_
      refine V_iload_n d_Lw_law_348 rfl ?_
      refine V_iconst (v := nI 3) d_Lw_law_349 (by decide +kernel) ?_
      refine V_iaddN d_Lw_law_350 ?_
      refine V_sld (j := i + 3) d_Lw_law_351 rfl (by omega) (by omega) ?_
      refine V_callV (As := [.int ((Γ.2.2.2.2.2 (i + 1))), .int ((Γ.2.2.2.2.2 (i + 2))), .int ((Γ.2.2.2.2.2 (i + 3)))]) (rest := [.int (nI 1)]) (lo' := [some (.ref (h + 220)), some (.int ((Γ.2.2.2.2.2 (i + 1)))), some (.int ((Γ.2.2.2.2.2 (i + 2)))), some (.int ((Γ.2.2.2.2.2 (i + 3)))), none, none]) (bc1 := 0) (bs1 := 0) (bc' := bc) (bs' := bs) d_Lw_law_352 k_Lw_law_47 mo.hd rfl rfl rfl rfl (by omega) (by omega) ?_
      refine cm_code mo hj (fun e' => ?_) (fun e' G2 mo2 ho2 => ?_)
      · exact absurd e' (by omega)
      · have dk := dk.kept (fun q hq => ho2 q (by omega))
        have mo := mo2
        show pV Γ m_Lw_law 355 [some (.ref Γ.2.2.2.1), some (.ref h), some (.ref (h + 220)), some (.int (nI i))] [.int (nI 1), .int (nI 1)] _ G2 bc bs Q
        refine V_icmp_eq (tgt := 702) d_Lw_law_355 (by decide) (fun _ => ?_) (fun e => absurd rfl e)
        exact next _ _ _ _ ⟨_, _, _, _, _, _, _, _, dk, mo.mono (by omega), iv⟩ (by omega) (by omega) (by omega)
set_option maxHeartbeats 1000000 in
theorem lw_case8 {Γ : pmE} {G : pmG} {n : Nat} {Q : pmPost} {h i N bc bs bR sR : Nat} (hL : Γ.2.2.2.2.1 ≤ 2560) (hi : i + 5 ≤ Γ.2.2.2.2.1) (hN : N < 2 ^ 31) (hbc : bR + 35 ≤ bc) (hbs : sR + 249 ≤ bs) (hn : h + 238 ≤ n) (hS : lwS G h n N) (next : ∀ n' G' bc' bs', lwS G' h n' (N + 3) → bR ≤ bc' → sR ≤ bs' → h + 238 ≤ n' → pV Γ m_Lw_law 702 [some (.ref Γ.2.2.2.1), some (.ref h), some (.ref (h + 220)), some (.int (nI i))] [] n' G' bc' bs' Q) : pV Γ m_Lw_law 360 [some (.ref Γ.2.2.2.1), some (.ref h), some (.ref (h + 220)), some (.int (nI i))] [] n G bc bs Q := by
  obtain ⟨f, D, ch, ld, trs, nb, bt, th, dk, mo, iv⟩ := hS
  have hok4 := mo.ok.1.2.2.1
  have ldU : ∀ {r r' : Nat}, ((pAlone ld (dTr trs D (dP D 1)) ≠ 0 ∧ r = pAlone ld (dTr trs D (dP D 1))) ∨ (pAlone ld (dTr trs D (dP D 1)) = 0 ∧ pCls (dP D 1) = none ∧ r = 5) ∨ (pAlone ld (dTr trs D (dP D 1)) = 0 ∧ (∃ j L, pCls (dP D 1) = some j ∧ ld j = some L) ∧ r = 13)) → ((pAlone ld (dTr trs D (dP D 1)) ≠ 0 ∧ r' = pAlone ld (dTr trs D (dP D 1))) ∨ (pAlone ld (dTr trs D (dP D 1)) = 0 ∧ pCls (dP D 1) = none ∧ r' = 5) ∨ (pAlone ld (dTr trs D (dP D 1)) = 0 ∧ (∃ j L, pCls (dP D 1) = some j ∧ ld j = some L) ∧ r' = 13)) → r = r' := by
    intro r r' a b
    rcases a with ⟨a1, a2⟩ | ⟨a1, a2, a3⟩ | ⟨a1, ⟨j, L, a2, _⟩, a3⟩ <;> rcases b with ⟨b1, b2⟩ | ⟨b1, b2, b3⟩ | ⟨b1, ⟨j', L', b2, _⟩, b3⟩
    · rw [a2, b2]
    · exact absurd b1 a1
    · exact absurd b1 a1
    · exact absurd a1 b1
    · rw [a3, b3]
    · rw [a2] at b2; cases b2
    · exact absurd a1 b1
    · rw [b2] at a2; cases a2
    · rw [a3, b3]
  have ldN : ∀ {r j : Nat}, pAlone ld (dTr trs D (dP D 1)) = 0 → pCls (dP D 1) = some j → ld j = none → ¬ ((pAlone ld (dTr trs D (dP D 1)) ≠ 0 ∧ r = pAlone ld (dTr trs D (dP D 1))) ∨ (pAlone ld (dTr trs D (dP D 1)) = 0 ∧ pCls (dP D 1) = none ∧ r = 5) ∨ (pAlone ld (dTr trs D (dP D 1)) = 0 ∧ (∃ j L, pCls (dP D 1) = some j ∧ ld j = some L) ∧ r = 13)) := by
    intro r j a1 a2 a3 b
    rcases b with ⟨b1, b2⟩ | ⟨b1, b2, b3⟩ | ⟨b1, ⟨j', L', b2, b4⟩, b3⟩
    · exact b1 a1
    · rw [a2] at b2; cases b2
    · rw [a2] at b2; cases b2; rw [a3] at b4; cases b4
  refine V_aload_n d_Lw_law_360 rfl ?_
  refine V_callV (As := []) (rest := []) (lo' := [some (.ref h), none, none]) (bc1 := 35) (bs1 := 249) (bc' := (bc - 35)) (bs' := (bs - 249)) d_Lw_law_361 k_Lw_law_48 dk.1 rfl rfl rfl rfl (by omega) (by omega) ?_
  refine c_HE_load dk (fun r hr G1 dk1 ho1 => ?_) (fun j h1 h2 h3 G1 dk1 ho1 => ?_)
  · have mo := mo.kept (fun q q1 q2 => ho1 q (by omega))
    have dk := dk1
    show pV Γ m_Lw_law 364 [some (.ref Γ.2.2.2.1), some (.ref h), some (.ref (h + 220)), some (.int (nI i))] [.int (nI r)] _ G1 (bc - 35) (bs - 249) Q
    refine V_aload_n d_Lw_law_364 rfl ?_
    refine V_callV (As := []) (rest := [.int (nI r)]) (lo' := [some (.ref (h + 220)), none, none]) (bc1 := 0) (bs1 := 0) (bc' := (bc - 35)) (bs' := (bs - 249)) d_Lw_law_365 k_Lw_law_52 mo.hd rfl rfl rfl rfl (by omega) (by omega) ?_
    refine cm_load mo (fun r' hr' G2 mo2 ho2 => ?_) (fun j' h1' h2' h3' G2 mo2 ho2 => ?_)
    · have er : r = r' := ldU hr hr'
      subst er
      have dk := dk.kept (fun q hq => ho2 q (by omega))
      have mo := mo2
      show pV Γ m_Lw_law 368 [some (.ref Γ.2.2.2.1), some (.ref h), some (.ref (h + 220)), some (.int (nI i))] [.int (nI r), .int (nI r)] _ G2 (bc - 35) (bs - 249) Q
      refine V_icmp_eq (tgt := 702) d_Lw_law_368 (by decide) (fun _ => ?_) (fun e => absurd rfl e)
      exact next _ _ _ _ ⟨_, _, _, _, _, _, _, _, dk, mo.mono (by omega), iv⟩ (by omega) (by omega) (by omega)
    · exact absurd hr (ldN h1' h2' h3')
  · have mo := mo.kept (fun q q1 q2 => ho1 q (by omega))
    have dk := dk1
    show pV Γ m_Lw_law 364 [some (.ref Γ.2.2.2.1), some (.ref h), some (.ref (h + 220)), some (.int (nI i))] [.int (nI 0)] _ G1 (bc - 35) (bs - 249) Q
    refine V_aload_n d_Lw_law_364 rfl ?_
    refine V_callV (As := []) (rest := [.int (nI 0)]) (lo' := [some (.ref (h + 220)), none, none]) (bc1 := 0) (bs1 := 0) (bc' := (bc - 35)) (bs' := (bs - 249)) d_Lw_law_365 k_Lw_law_52 mo.hd rfl rfl rfl rfl (by omega) (by omega) ?_
    refine cm_load mo (fun r' hr' G2 mo2 ho2 => ?_) (fun j' h1' h2' h3' G2 mo2 ho2 => ?_)
    · exact absurd hr' (ldN h1 h2 h3)
    · have ej : j' = j := Option.some.inj (h2'.symm.trans h2)
      subst ej
      have dk := dk.kept (fun q hq => ho2 q (by omega))
      have mo := mo2
      show pV Γ m_Lw_law 368 [some (.ref Γ.2.2.2.1), some (.ref h), some (.ref (h + 220)), some (.int (nI i))] [.int (nI 0), .int (nI 0)] _ G2 (bc - 35) (bs - 249) Q
      refine V_icmp_eq (tgt := 702) d_Lw_law_368 (by decide) (fun _ => ?_) (fun e => absurd rfl e)
      exact next _ _ _ _ ⟨_, _, _, _, _, _, _, _, dk, mo.mono (by omega), iv.load (pCls_some h2).1 h3 (by rw [dTr_P1]; exact (pCls_some h2).2) h1 (by rw [dTr_nm]; exact hok4)⟩ (by omega) (by omega) (by omega)
theorem u_HE_transformer {Γ : pmE} {G : pmG} {n : Nat} {Q : pmPost} {h lo : Nat} {f : Nat → Option Nat} {D : Dfn} {ch : Option Nat} {ld : LdS} {trs : Nat → Trf} {nb : Nat} {bt : Nat → Int32 × Dfn} {th : Nat → Thr} (dk : isDk G h lo n f D ch ld trs nb bt th) {kd0 : Nat} {v y r : Int32} (rp : Bool) (hr : r = pB (rp = true)) (hk : kd0 < 5) (hF : (∀ j, j < 5 → (trs j).1 = true) → Q (some (.int (-1))) n G) (hS : ∀ j, j < 5 → (trs j).1 = false → (∀ i, i < j → (trs i).1 = true) → ∀ G', isDk G' h lo n f D ch ld (va_up trs j (true, kd0, v, onI y, rp)) nb bt th → (∀ q, (q < h ∨ (h + 220 ≤ q ∧ q < lo)) → G' q = G q) → Q (some (.int (nI j))) n G') : pV Γ m_HE_transformer 0 [some (.ref h), some (.int (nI kd0)), some (.int v), some (.int y), some (.int r)] [] n G 0 0 Q := by
  subst hr
  exact c_HE_transformer dk (by omega) hF hS
theorem u_Mo_transformer {Γ : pmE} {G : pmG} {n : Nat} {Q : pmPost} {m : Nat} {D : Dfn} {ch : Option Nat} {ld : LdS} {trs : Nat → Trf} {nb : Nat} {bt : Nat → Int32 × Dfn} {th : Nat → Thr} {N : Nat} (mo : isMo G m D ch ld trs nb bt th N) {kd0 : Nat} {v y r : Int32} (rb : Bool) (hr : r = pB (rb = true)) (hk : kd0 < 5) (hN : (∀ j, j < 5 → (trs j).1 = true) → Q (some (.int (-1))) n G) (hS : ∀ j, j < 5 → (trs j).1 = false → (∀ i, i < j → (trs i).1 = true) → ∀ G', isMo G' m D ch ld (va_up trs j (true, kd0, v, onI y, rb)) nb bt th N → (∀ q, (q < m ∨ m + 18 ≤ q) → G' q = G q) → Q (some (.int (nI j))) n G') : pV Γ m_Mo_transformer 0 [some (.ref m), some (.int (nI kd0)), some (.int v), some (.int y), some (.int r), none] [] n G 0 0 Q := by
  subst hr
  exact cm_transformer mo (by omega) hN hS
set_option maxHeartbeats 1000000 in
theorem lw_case9 {Γ : pmE} {G : pmG} {n : Nat} {Q : pmPost} {h i N bc bs bR sR : Nat} (hL : Γ.2.2.2.2.1 ≤ 2560) (hi : i + 5 ≤ Γ.2.2.2.2.1) (hN : N < 2 ^ 31) (hbc : bR + 35 ≤ bc) (hbs : sR + 249 ≤ bs) (hn : h + 238 ≤ n) (hS : lwS G h n N) (next : ∀ n' G' bc' bs', lwS G' h n' (N + 3) → bR ≤ bc' → sR ≤ bs' → h + 238 ≤ n' → pV Γ m_Lw_law 702 [some (.ref Γ.2.2.2.1), some (.ref h), some (.ref (h + 220)), some (.int (nI i))] [] n' G' bc' bs' Q) : pV Γ m_Lw_law 373 [some (.ref Γ.2.2.2.1), some (.ref h), some (.ref (h + 220)), some (.int (nI i))] [] n G bc bs Q := by
  obtain ⟨f, D, ch, ld, trs, nb, bt, th, dk, mo, iv⟩ := hS
  rcases pk_ix (Γ.2.2.2.2.2 (i + 1)) (n := 5) (by omega) with hx | hx | ⟨j, hj, hx⟩
  · refine V_aload_n d_Lw_law_373 rfl ?_
    refine V_aload_n d_Lw_law_374 rfl ?_
    refine V_iload_n d_Lw_law_375 rfl ?_
    refine V_iconst (v := nI 1) d_Lw_law_376 (by decide +kernel) ?_
    refine V_iaddN d_Lw_law_377 ?_
    refine V_sld (j := i + 1) d_Lw_law_378 rfl (by omega) (by omega) ?_
    refine V_aload_n d_Lw_law_379 rfl ?_
    refine V_iload_n d_Lw_law_380 rfl ?_
    refine V_iconst (v := nI 2) d_Lw_law_381 (by decide +kernel) ?_
    refine V_iaddN d_Lw_law_382 ?_
    refine V_sld (j := i + 2) d_Lw_law_383 rfl (by omega) (by omega) ?_
    refine V_aload_n d_Lw_law_384 rfl ?_
    refine V_iload_n d_Lw_law_385 rfl ?_
    refine V_iconst (v := nI 3) d_Lw_law_386 (by decide +kernel) ?_
    refine V_iaddN d_Lw_law_387 ?_
    refine V_sld (j := i + 3) d_Lw_law_388 rfl (by omega) (by omega) ?_
    refine V_aload_n d_Lw_law_389 rfl ?_
    refine V_iload_n d_Lw_law_390 rfl ?_
    refine V_iconst (v := nI 4) d_Lw_law_391 (by decide +kernel) ?_
    refine V_iaddN d_Lw_law_392 ?_
    refine V_sld (j := i + 4) d_Lw_law_393 rfl (by omega) (by omega) ?_
    refine V_if_eq (tgt := 401) d_Lw_law_394 (by decide) (fun hb394 => ?_) (fun hb394 => ?_)
    · refine V_iconst (v := nI 0) d_Lw_law_401 (by decide +kernel) ?_
      refine V_callV (As := [.int ((Γ.2.2.2.2.2 (i + 1))), .int ((Γ.2.2.2.2.2 (i + 2))), .int ((Γ.2.2.2.2.2 (i + 3))), .int (nI 0)]) (rest := []) (lo' := [some (.ref h), some (.int ((Γ.2.2.2.2.2 (i + 1)))), some (.int ((Γ.2.2.2.2.2 (i + 2)))), some (.int ((Γ.2.2.2.2.2 (i + 3)))), some (.int (nI 0))]) (bc1 := 0) (bs1 := 0) (bc' := bc) (bs' := bs) d_Lw_law_402 k_Lw_law_53 dk.1 rfl rfl rfl rfl (by omega) (by omega) ?_
      refine c_HE_transformerF dk (Or.inl hx) ?_
      · show pV Γ m_Lw_law 405 [some (.ref Γ.2.2.2.1), some (.ref h), some (.ref (h + 220)), some (.int (nI i))] [.int ((-1))] _ G bc bs Q
        refine V_aload_n d_Lw_law_405 rfl ?_
        refine V_aload_n d_Lw_law_406 rfl ?_
        refine V_iload_n d_Lw_law_407 rfl ?_
        refine V_iconst (v := nI 1) d_Lw_law_408 (by decide +kernel) ?_
        refine V_iaddN d_Lw_law_409 ?_
        refine V_sld (j := i + 1) d_Lw_law_410 rfl (by omega) (by omega) ?_
        refine V_aload_n d_Lw_law_411 rfl ?_
        refine V_iload_n d_Lw_law_412 rfl ?_
        refine V_iconst (v := nI 2) d_Lw_law_413 (by decide +kernel) ?_
        refine V_iaddN d_Lw_law_414 ?_
        refine V_sld (j := i + 2) d_Lw_law_415 rfl (by omega) (by omega) ?_
        refine V_aload_n d_Lw_law_416 rfl ?_
        refine V_iload_n d_Lw_law_417 rfl ?_
        refine V_iconst (v := nI 3) d_Lw_law_418 (by decide +kernel) ?_
        refine V_iaddN d_Lw_law_419 ?_
        refine V_sld (j := i + 3) d_Lw_law_420 rfl (by omega) (by omega) ?_
        refine V_aload_n d_Lw_law_421 rfl ?_
        refine V_iload_n d_Lw_law_422 rfl ?_
        refine V_iconst (v := nI 4) d_Lw_law_423 (by decide +kernel) ?_
        refine V_iaddN d_Lw_law_424 ?_
        refine V_sld (j := i + 4) d_Lw_law_425 rfl (by omega) (by omega) ?_
        refine V_if_eq (tgt := 433) d_Lw_law_426 (by decide) (fun _ => ?_) (fun e => absurd hb394 e)
        refine V_iconst (v := nI 0) d_Lw_law_433 (by decide +kernel) ?_
        refine V_callV (As := [.int ((Γ.2.2.2.2.2 (i + 1))), .int ((Γ.2.2.2.2.2 (i + 2))), .int ((Γ.2.2.2.2.2 (i + 3))), .int (nI 0)]) (rest := [.int ((-1))]) (lo' := [some (.ref (h + 220)), some (.int ((Γ.2.2.2.2.2 (i + 1)))), some (.int ((Γ.2.2.2.2.2 (i + 2)))), some (.int ((Γ.2.2.2.2.2 (i + 3)))), some (.int (nI 0)), none]) (bc1 := 0) (bs1 := 0) (bc' := bc) (bs' := bs) d_Lw_law_434 k_Lw_law_57 mo.hd rfl rfl rfl rfl (by omega) (by omega) ?_
        refine cm_transformerF mo (Or.inl hx) ?_
        · show pV Γ m_Lw_law 437 [some (.ref Γ.2.2.2.1), some (.ref h), some (.ref (h + 220)), some (.int (nI i))] [.int ((-1)), .int ((-1))] _ G bc bs Q
          refine V_icmp_eq (tgt := 702) d_Lw_law_437 (by decide) (fun _ => ?_) (fun e => absurd rfl e)
          exact next _ _ _ _ ⟨_, _, _, _, _, _, _, _, dk, mo.mono (by omega), iv⟩ (by omega) (by omega) (by omega)
    · refine V_iconst (v := nI 1) d_Lw_law_397 (by decide +kernel) ?_
      refine V_goto (tgt := 402) d_Lw_law_398 (by decide) ?_
      refine V_callV (As := [.int ((Γ.2.2.2.2.2 (i + 1))), .int ((Γ.2.2.2.2.2 (i + 2))), .int ((Γ.2.2.2.2.2 (i + 3))), .int (nI 1)]) (rest := []) (lo' := [some (.ref h), some (.int ((Γ.2.2.2.2.2 (i + 1)))), some (.int ((Γ.2.2.2.2.2 (i + 2)))), some (.int ((Γ.2.2.2.2.2 (i + 3)))), some (.int (nI 1))]) (bc1 := 0) (bs1 := 0) (bc' := bc) (bs' := bs) d_Lw_law_402 k_Lw_law_53 dk.1 rfl rfl rfl rfl (by omega) (by omega) ?_
      refine c_HE_transformerF dk (Or.inl hx) ?_
      · show pV Γ m_Lw_law 405 [some (.ref Γ.2.2.2.1), some (.ref h), some (.ref (h + 220)), some (.int (nI i))] [.int ((-1))] _ G bc bs Q
        refine V_aload_n d_Lw_law_405 rfl ?_
        refine V_aload_n d_Lw_law_406 rfl ?_
        refine V_iload_n d_Lw_law_407 rfl ?_
        refine V_iconst (v := nI 1) d_Lw_law_408 (by decide +kernel) ?_
        refine V_iaddN d_Lw_law_409 ?_
        refine V_sld (j := i + 1) d_Lw_law_410 rfl (by omega) (by omega) ?_
        refine V_aload_n d_Lw_law_411 rfl ?_
        refine V_iload_n d_Lw_law_412 rfl ?_
        refine V_iconst (v := nI 2) d_Lw_law_413 (by decide +kernel) ?_
        refine V_iaddN d_Lw_law_414 ?_
        refine V_sld (j := i + 2) d_Lw_law_415 rfl (by omega) (by omega) ?_
        refine V_aload_n d_Lw_law_416 rfl ?_
        refine V_iload_n d_Lw_law_417 rfl ?_
        refine V_iconst (v := nI 3) d_Lw_law_418 (by decide +kernel) ?_
        refine V_iaddN d_Lw_law_419 ?_
        refine V_sld (j := i + 3) d_Lw_law_420 rfl (by omega) (by omega) ?_
        refine V_aload_n d_Lw_law_421 rfl ?_
        refine V_iload_n d_Lw_law_422 rfl ?_
        refine V_iconst (v := nI 4) d_Lw_law_423 (by decide +kernel) ?_
        refine V_iaddN d_Lw_law_424 ?_
        refine V_sld (j := i + 4) d_Lw_law_425 rfl (by omega) (by omega) ?_
        refine V_if_eq (tgt := 433) d_Lw_law_426 (by decide) (fun e => absurd e hb394) (fun _ => ?_)
        refine V_iconst (v := nI 1) d_Lw_law_429 (by decide +kernel) ?_
        refine V_goto (tgt := 434) d_Lw_law_430 (by decide) ?_
        refine V_callV (As := [.int ((Γ.2.2.2.2.2 (i + 1))), .int ((Γ.2.2.2.2.2 (i + 2))), .int ((Γ.2.2.2.2.2 (i + 3))), .int (nI 1)]) (rest := [.int ((-1))]) (lo' := [some (.ref (h + 220)), some (.int ((Γ.2.2.2.2.2 (i + 1)))), some (.int ((Γ.2.2.2.2.2 (i + 2)))), some (.int ((Γ.2.2.2.2.2 (i + 3)))), some (.int (nI 1)), none]) (bc1 := 0) (bs1 := 0) (bc' := bc) (bs' := bs) d_Lw_law_434 k_Lw_law_57 mo.hd rfl rfl rfl rfl (by omega) (by omega) ?_
        refine cm_transformerF mo (Or.inl hx) ?_
        · show pV Γ m_Lw_law 437 [some (.ref Γ.2.2.2.1), some (.ref h), some (.ref (h + 220)), some (.int (nI i))] [.int ((-1)), .int ((-1))] _ G bc bs Q
          refine V_icmp_eq (tgt := 702) d_Lw_law_437 (by decide) (fun _ => ?_) (fun e => absurd rfl e)
          exact next _ _ _ _ ⟨_, _, _, _, _, _, _, _, dk, mo.mono (by omega), iv⟩ (by omega) (by omega) (by omega)
  · refine V_aload_n d_Lw_law_373 rfl ?_
    refine V_aload_n d_Lw_law_374 rfl ?_
    refine V_iload_n d_Lw_law_375 rfl ?_
    refine V_iconst (v := nI 1) d_Lw_law_376 (by decide +kernel) ?_
    refine V_iaddN d_Lw_law_377 ?_
    refine V_sld (j := i + 1) d_Lw_law_378 rfl (by omega) (by omega) ?_
    refine V_aload_n d_Lw_law_379 rfl ?_
    refine V_iload_n d_Lw_law_380 rfl ?_
    refine V_iconst (v := nI 2) d_Lw_law_381 (by decide +kernel) ?_
    refine V_iaddN d_Lw_law_382 ?_
    refine V_sld (j := i + 2) d_Lw_law_383 rfl (by omega) (by omega) ?_
    refine V_aload_n d_Lw_law_384 rfl ?_
    refine V_iload_n d_Lw_law_385 rfl ?_
    refine V_iconst (v := nI 3) d_Lw_law_386 (by decide +kernel) ?_
    refine V_iaddN d_Lw_law_387 ?_
    refine V_sld (j := i + 3) d_Lw_law_388 rfl (by omega) (by omega) ?_
    refine V_aload_n d_Lw_law_389 rfl ?_
    refine V_iload_n d_Lw_law_390 rfl ?_
    refine V_iconst (v := nI 4) d_Lw_law_391 (by decide +kernel) ?_
    refine V_iaddN d_Lw_law_392 ?_
    refine V_sld (j := i + 4) d_Lw_law_393 rfl (by omega) (by omega) ?_
    refine V_if_eq (tgt := 401) d_Lw_law_394 (by decide) (fun hb394 => ?_) (fun hb394 => ?_)
    · refine V_iconst (v := nI 0) d_Lw_law_401 (by decide +kernel) ?_
      refine V_callV (As := [.int ((Γ.2.2.2.2.2 (i + 1))), .int ((Γ.2.2.2.2.2 (i + 2))), .int ((Γ.2.2.2.2.2 (i + 3))), .int (nI 0)]) (rest := []) (lo' := [some (.ref h), some (.int ((Γ.2.2.2.2.2 (i + 1)))), some (.int ((Γ.2.2.2.2.2 (i + 2)))), some (.int ((Γ.2.2.2.2.2 (i + 3)))), some (.int (nI 0))]) (bc1 := 0) (bs1 := 0) (bc' := bc) (bs' := bs) d_Lw_law_402 k_Lw_law_53 dk.1 rfl rfl rfl rfl (by omega) (by omega) ?_
      refine c_HE_transformerF dk (Or.inr ((nI_lts (k := 4) (by omega)).mpr hx)) ?_
      · show pV Γ m_Lw_law 405 [some (.ref Γ.2.2.2.1), some (.ref h), some (.ref (h + 220)), some (.int (nI i))] [.int ((-1))] _ G bc bs Q
        refine V_aload_n d_Lw_law_405 rfl ?_
        refine V_aload_n d_Lw_law_406 rfl ?_
        refine V_iload_n d_Lw_law_407 rfl ?_
        refine V_iconst (v := nI 1) d_Lw_law_408 (by decide +kernel) ?_
        refine V_iaddN d_Lw_law_409 ?_
        refine V_sld (j := i + 1) d_Lw_law_410 rfl (by omega) (by omega) ?_
        refine V_aload_n d_Lw_law_411 rfl ?_
        refine V_iload_n d_Lw_law_412 rfl ?_
        refine V_iconst (v := nI 2) d_Lw_law_413 (by decide +kernel) ?_
        refine V_iaddN d_Lw_law_414 ?_
        refine V_sld (j := i + 2) d_Lw_law_415 rfl (by omega) (by omega) ?_
        refine V_aload_n d_Lw_law_416 rfl ?_
        refine V_iload_n d_Lw_law_417 rfl ?_
        refine V_iconst (v := nI 3) d_Lw_law_418 (by decide +kernel) ?_
        refine V_iaddN d_Lw_law_419 ?_
        refine V_sld (j := i + 3) d_Lw_law_420 rfl (by omega) (by omega) ?_
        refine V_aload_n d_Lw_law_421 rfl ?_
        refine V_iload_n d_Lw_law_422 rfl ?_
        refine V_iconst (v := nI 4) d_Lw_law_423 (by decide +kernel) ?_
        refine V_iaddN d_Lw_law_424 ?_
        refine V_sld (j := i + 4) d_Lw_law_425 rfl (by omega) (by omega) ?_
        refine V_if_eq (tgt := 433) d_Lw_law_426 (by decide) (fun _ => ?_) (fun e => absurd hb394 e)
        refine V_iconst (v := nI 0) d_Lw_law_433 (by decide +kernel) ?_
        refine V_callV (As := [.int ((Γ.2.2.2.2.2 (i + 1))), .int ((Γ.2.2.2.2.2 (i + 2))), .int ((Γ.2.2.2.2.2 (i + 3))), .int (nI 0)]) (rest := [.int ((-1))]) (lo' := [some (.ref (h + 220)), some (.int ((Γ.2.2.2.2.2 (i + 1)))), some (.int ((Γ.2.2.2.2.2 (i + 2)))), some (.int ((Γ.2.2.2.2.2 (i + 3)))), some (.int (nI 0)), none]) (bc1 := 0) (bs1 := 0) (bc' := bc) (bs' := bs) d_Lw_law_434 k_Lw_law_57 mo.hd rfl rfl rfl rfl (by omega) (by omega) ?_
        refine cm_transformerF mo (Or.inr ((nI_lts (k := 4) (by omega)).mpr hx)) ?_
        · show pV Γ m_Lw_law 437 [some (.ref Γ.2.2.2.1), some (.ref h), some (.ref (h + 220)), some (.int (nI i))] [.int ((-1)), .int ((-1))] _ G bc bs Q
          refine V_icmp_eq (tgt := 702) d_Lw_law_437 (by decide) (fun _ => ?_) (fun e => absurd rfl e)
          exact next _ _ _ _ ⟨_, _, _, _, _, _, _, _, dk, mo.mono (by omega), iv⟩ (by omega) (by omega) (by omega)
    · refine V_iconst (v := nI 1) d_Lw_law_397 (by decide +kernel) ?_
      refine V_goto (tgt := 402) d_Lw_law_398 (by decide) ?_
      refine V_callV (As := [.int ((Γ.2.2.2.2.2 (i + 1))), .int ((Γ.2.2.2.2.2 (i + 2))), .int ((Γ.2.2.2.2.2 (i + 3))), .int (nI 1)]) (rest := []) (lo' := [some (.ref h), some (.int ((Γ.2.2.2.2.2 (i + 1)))), some (.int ((Γ.2.2.2.2.2 (i + 2)))), some (.int ((Γ.2.2.2.2.2 (i + 3)))), some (.int (nI 1))]) (bc1 := 0) (bs1 := 0) (bc' := bc) (bs' := bs) d_Lw_law_402 k_Lw_law_53 dk.1 rfl rfl rfl rfl (by omega) (by omega) ?_
      refine c_HE_transformerF dk (Or.inr ((nI_lts (k := 4) (by omega)).mpr hx)) ?_
      · show pV Γ m_Lw_law 405 [some (.ref Γ.2.2.2.1), some (.ref h), some (.ref (h + 220)), some (.int (nI i))] [.int ((-1))] _ G bc bs Q
        refine V_aload_n d_Lw_law_405 rfl ?_
        refine V_aload_n d_Lw_law_406 rfl ?_
        refine V_iload_n d_Lw_law_407 rfl ?_
        refine V_iconst (v := nI 1) d_Lw_law_408 (by decide +kernel) ?_
        refine V_iaddN d_Lw_law_409 ?_
        refine V_sld (j := i + 1) d_Lw_law_410 rfl (by omega) (by omega) ?_
        refine V_aload_n d_Lw_law_411 rfl ?_
        refine V_iload_n d_Lw_law_412 rfl ?_
        refine V_iconst (v := nI 2) d_Lw_law_413 (by decide +kernel) ?_
        refine V_iaddN d_Lw_law_414 ?_
        refine V_sld (j := i + 2) d_Lw_law_415 rfl (by omega) (by omega) ?_
        refine V_aload_n d_Lw_law_416 rfl ?_
        refine V_iload_n d_Lw_law_417 rfl ?_
        refine V_iconst (v := nI 3) d_Lw_law_418 (by decide +kernel) ?_
        refine V_iaddN d_Lw_law_419 ?_
        refine V_sld (j := i + 3) d_Lw_law_420 rfl (by omega) (by omega) ?_
        refine V_aload_n d_Lw_law_421 rfl ?_
        refine V_iload_n d_Lw_law_422 rfl ?_
        refine V_iconst (v := nI 4) d_Lw_law_423 (by decide +kernel) ?_
        refine V_iaddN d_Lw_law_424 ?_
        refine V_sld (j := i + 4) d_Lw_law_425 rfl (by omega) (by omega) ?_
        refine V_if_eq (tgt := 433) d_Lw_law_426 (by decide) (fun e => absurd e hb394) (fun _ => ?_)
        refine V_iconst (v := nI 1) d_Lw_law_429 (by decide +kernel) ?_
        refine V_goto (tgt := 434) d_Lw_law_430 (by decide) ?_
        refine V_callV (As := [.int ((Γ.2.2.2.2.2 (i + 1))), .int ((Γ.2.2.2.2.2 (i + 2))), .int ((Γ.2.2.2.2.2 (i + 3))), .int (nI 1)]) (rest := [.int ((-1))]) (lo' := [some (.ref (h + 220)), some (.int ((Γ.2.2.2.2.2 (i + 1)))), some (.int ((Γ.2.2.2.2.2 (i + 2)))), some (.int ((Γ.2.2.2.2.2 (i + 3)))), some (.int (nI 1)), none]) (bc1 := 0) (bs1 := 0) (bc' := bc) (bs' := bs) d_Lw_law_434 k_Lw_law_57 mo.hd rfl rfl rfl rfl (by omega) (by omega) ?_
        refine cm_transformerF mo (Or.inr ((nI_lts (k := 4) (by omega)).mpr hx)) ?_
        · show pV Γ m_Lw_law 437 [some (.ref Γ.2.2.2.1), some (.ref h), some (.ref (h + 220)), some (.int (nI i))] [.int ((-1)), .int ((-1))] _ G bc bs Q
          refine V_icmp_eq (tgt := 702) d_Lw_law_437 (by decide) (fun _ => ?_) (fun e => absurd rfl e)
          exact next _ _ _ _ ⟨_, _, _, _, _, _, _, _, dk, mo.mono (by omega), iv⟩ (by omega) (by omega) (by omega)
  · refine V_aload_n d_Lw_law_373 rfl ?_
    refine V_aload_n d_Lw_law_374 rfl ?_
    refine V_iload_n d_Lw_law_375 rfl ?_
    refine V_iconst (v := nI 1) d_Lw_law_376 (by decide +kernel) ?_
    refine V_iaddN d_Lw_law_377 ?_
    refine V_sld (j := i + 1) d_Lw_law_378 rfl (by omega) (by omega) ?_
    refine V_aload_n d_Lw_law_379 rfl ?_
    refine V_iload_n d_Lw_law_380 rfl ?_
    refine V_iconst (v := nI 2) d_Lw_law_381 (by decide +kernel) ?_
    refine V_iaddN d_Lw_law_382 ?_
    refine V_sld (j := i + 2) d_Lw_law_383 rfl (by omega) (by omega) ?_
    refine V_aload_n d_Lw_law_384 rfl ?_
    refine V_iload_n d_Lw_law_385 rfl ?_
    refine V_iconst (v := nI 3) d_Lw_law_386 (by decide +kernel) ?_
    refine V_iaddN d_Lw_law_387 ?_
    refine V_sld (j := i + 3) d_Lw_law_388 rfl (by omega) (by omega) ?_
    refine V_aload_n d_Lw_law_389 rfl ?_
    refine V_iload_n d_Lw_law_390 rfl ?_
    refine V_iconst (v := nI 4) d_Lw_law_391 (by decide +kernel) ?_
    refine V_iaddN d_Lw_law_392 ?_
    refine V_sld (j := i + 4) d_Lw_law_393 rfl (by omega) (by omega) ?_
    refine V_if_eq (tgt := 401) d_Lw_law_394 (by decide) (fun hb394 => ?_) (fun hb394 => ?_)
    · refine V_iconst (v := nI 0) d_Lw_law_401 (by decide +kernel) ?_
      refine V_callV (As := [.int ((Γ.2.2.2.2.2 (i + 1))), .int ((Γ.2.2.2.2.2 (i + 2))), .int ((Γ.2.2.2.2.2 (i + 3))), .int (nI 0)]) (rest := []) (lo' := [some (.ref h), some (.int ((Γ.2.2.2.2.2 (i + 1)))), some (.int ((Γ.2.2.2.2.2 (i + 2)))), some (.int ((Γ.2.2.2.2.2 (i + 3)))), some (.int (nI 0))]) (bc1 := 0) (bs1 := 0) (bc' := bc) (bs' := bs) d_Lw_law_402 k_Lw_law_53 dk.1 rfl rfl rfl rfl (by omega) (by omega) ?_
      rw [hx]
      refine u_HE_transformer dk false (pB_f (by decide)).symm hj (fun e => ?_) (fun k hk e1 e2 G1 dk1 ho1 => ?_)
      · show pV Γ m_Lw_law 405 [some (.ref Γ.2.2.2.1), some (.ref h), some (.ref (h + 220)), some (.int (nI i))] [.int ((-1))] _ G bc bs Q
        refine V_aload_n d_Lw_law_405 rfl ?_
        refine V_aload_n d_Lw_law_406 rfl ?_
        refine V_iload_n d_Lw_law_407 rfl ?_
        refine V_iconst (v := nI 1) d_Lw_law_408 (by decide +kernel) ?_
        refine V_iaddN d_Lw_law_409 ?_
        refine V_sld (j := i + 1) d_Lw_law_410 rfl (by omega) (by omega) ?_
        refine V_aload_n d_Lw_law_411 rfl ?_
        refine V_iload_n d_Lw_law_412 rfl ?_
        refine V_iconst (v := nI 2) d_Lw_law_413 (by decide +kernel) ?_
        refine V_iaddN d_Lw_law_414 ?_
        refine V_sld (j := i + 2) d_Lw_law_415 rfl (by omega) (by omega) ?_
        refine V_aload_n d_Lw_law_416 rfl ?_
        refine V_iload_n d_Lw_law_417 rfl ?_
        refine V_iconst (v := nI 3) d_Lw_law_418 (by decide +kernel) ?_
        refine V_iaddN d_Lw_law_419 ?_
        refine V_sld (j := i + 3) d_Lw_law_420 rfl (by omega) (by omega) ?_
        refine V_aload_n d_Lw_law_421 rfl ?_
        refine V_iload_n d_Lw_law_422 rfl ?_
        refine V_iconst (v := nI 4) d_Lw_law_423 (by decide +kernel) ?_
        refine V_iaddN d_Lw_law_424 ?_
        refine V_sld (j := i + 4) d_Lw_law_425 rfl (by omega) (by omega) ?_
        refine V_if_eq (tgt := 433) d_Lw_law_426 (by decide) (fun _ => ?_) (fun e => absurd hb394 e)
        refine V_iconst (v := nI 0) d_Lw_law_433 (by decide +kernel) ?_
        refine V_callV (As := [.int ((Γ.2.2.2.2.2 (i + 1))), .int ((Γ.2.2.2.2.2 (i + 2))), .int ((Γ.2.2.2.2.2 (i + 3))), .int (nI 0)]) (rest := [.int ((-1))]) (lo' := [some (.ref (h + 220)), some (.int ((Γ.2.2.2.2.2 (i + 1)))), some (.int ((Γ.2.2.2.2.2 (i + 2)))), some (.int ((Γ.2.2.2.2.2 (i + 3)))), some (.int (nI 0)), none]) (bc1 := 0) (bs1 := 0) (bc' := bc) (bs' := bs) d_Lw_law_434 k_Lw_law_57 mo.hd rfl rfl rfl rfl (by omega) (by omega) ?_
        rw [hx]
        refine u_Mo_transformer mo false (pB_f (by decide)).symm hj (fun e' => ?_) (fun k' hk' e1' e2' G2 mo2 ho2 => ?_)
        · show pV Γ m_Lw_law 437 [some (.ref Γ.2.2.2.1), some (.ref h), some (.ref (h + 220)), some (.int (nI i))] [.int ((-1)), .int ((-1))] _ G bc bs Q
          refine V_icmp_eq (tgt := 702) d_Lw_law_437 (by decide) (fun _ => ?_) (fun e => absurd rfl e)
          exact next _ _ _ _ ⟨_, _, _, _, _, _, _, _, dk, mo.mono (by omega), iv⟩ (by omega) (by omega) (by omega)
        · exact absurd (e k' hk') (by rw [e1']; decide)
      · have mo := mo.kept (fun q q1 q2 => ho1 q (by omega))
        have dk := dk1
        show pV Γ m_Lw_law 405 [some (.ref Γ.2.2.2.1), some (.ref h), some (.ref (h + 220)), some (.int (nI i))] [.int (nI k)] _ G1 bc bs Q
        refine V_aload_n d_Lw_law_405 rfl ?_
        refine V_aload_n d_Lw_law_406 rfl ?_
        refine V_iload_n d_Lw_law_407 rfl ?_
        refine V_iconst (v := nI 1) d_Lw_law_408 (by decide +kernel) ?_
        refine V_iaddN d_Lw_law_409 ?_
        refine V_sld (j := i + 1) d_Lw_law_410 rfl (by omega) (by omega) ?_
        refine V_aload_n d_Lw_law_411 rfl ?_
        refine V_iload_n d_Lw_law_412 rfl ?_
        refine V_iconst (v := nI 2) d_Lw_law_413 (by decide +kernel) ?_
        refine V_iaddN d_Lw_law_414 ?_
        refine V_sld (j := i + 2) d_Lw_law_415 rfl (by omega) (by omega) ?_
        refine V_aload_n d_Lw_law_416 rfl ?_
        refine V_iload_n d_Lw_law_417 rfl ?_
        refine V_iconst (v := nI 3) d_Lw_law_418 (by decide +kernel) ?_
        refine V_iaddN d_Lw_law_419 ?_
        refine V_sld (j := i + 3) d_Lw_law_420 rfl (by omega) (by omega) ?_
        refine V_aload_n d_Lw_law_421 rfl ?_
        refine V_iload_n d_Lw_law_422 rfl ?_
        refine V_iconst (v := nI 4) d_Lw_law_423 (by decide +kernel) ?_
        refine V_iaddN d_Lw_law_424 ?_
        refine V_sld (j := i + 4) d_Lw_law_425 rfl (by omega) (by omega) ?_
        refine V_if_eq (tgt := 433) d_Lw_law_426 (by decide) (fun _ => ?_) (fun e => absurd hb394 e)
        refine V_iconst (v := nI 0) d_Lw_law_433 (by decide +kernel) ?_
        refine V_callV (As := [.int ((Γ.2.2.2.2.2 (i + 1))), .int ((Γ.2.2.2.2.2 (i + 2))), .int ((Γ.2.2.2.2.2 (i + 3))), .int (nI 0)]) (rest := [.int (nI k)]) (lo' := [some (.ref (h + 220)), some (.int ((Γ.2.2.2.2.2 (i + 1)))), some (.int ((Γ.2.2.2.2.2 (i + 2)))), some (.int ((Γ.2.2.2.2.2 (i + 3)))), some (.int (nI 0)), none]) (bc1 := 0) (bs1 := 0) (bc' := bc) (bs' := bs) d_Lw_law_434 k_Lw_law_57 mo.hd rfl rfl rfl rfl (by omega) (by omega) ?_
        rw [hx]
        refine u_Mo_transformer mo false (pB_f (by decide)).symm hj (fun e' => ?_) (fun k' hk' e1' e2' G2 mo2 ho2 => ?_)
        · exact absurd (e' k hk) (by rw [e1]; decide)
        · have ek : k = k' := by
            rcases Nat.lt_trichotomy k' k with q | q | q
            · exact absurd (e2 k' q) (by rw [e1']; decide)
            · exact q.symm
            · exact absurd (e2' k q) (by rw [e1]; decide)
          subst ek
          have dk := dk.kept (fun q hq => ho2 q (by omega))
          have mo := mo2
          show pV Γ m_Lw_law 437 [some (.ref Γ.2.2.2.1), some (.ref h), some (.ref (h + 220)), some (.int (nI i))] [.int (nI k), .int (nI k)] _ G2 bc bs Q
          refine V_icmp_eq (tgt := 702) d_Lw_law_437 (by decide) (fun _ => ?_) (fun e => absurd rfl e)
          exact next _ _ _ _ ⟨_, _, _, _, _, _, _, _, dk, mo.mono (by omega), iv⟩ (by omega) (by omega) (by omega)
    · refine V_iconst (v := nI 1) d_Lw_law_397 (by decide +kernel) ?_
      refine V_goto (tgt := 402) d_Lw_law_398 (by decide) ?_
      refine V_callV (As := [.int ((Γ.2.2.2.2.2 (i + 1))), .int ((Γ.2.2.2.2.2 (i + 2))), .int ((Γ.2.2.2.2.2 (i + 3))), .int (nI 1)]) (rest := []) (lo' := [some (.ref h), some (.int ((Γ.2.2.2.2.2 (i + 1)))), some (.int ((Γ.2.2.2.2.2 (i + 2)))), some (.int ((Γ.2.2.2.2.2 (i + 3)))), some (.int (nI 1))]) (bc1 := 0) (bs1 := 0) (bc' := bc) (bs' := bs) d_Lw_law_402 k_Lw_law_53 dk.1 rfl rfl rfl rfl (by omega) (by omega) ?_
      rw [hx]
      refine u_HE_transformer dk true (pB_t rfl).symm hj (fun e => ?_) (fun k hk e1 e2 G1 dk1 ho1 => ?_)
      · show pV Γ m_Lw_law 405 [some (.ref Γ.2.2.2.1), some (.ref h), some (.ref (h + 220)), some (.int (nI i))] [.int ((-1))] _ G bc bs Q
        refine V_aload_n d_Lw_law_405 rfl ?_
        refine V_aload_n d_Lw_law_406 rfl ?_
        refine V_iload_n d_Lw_law_407 rfl ?_
        refine V_iconst (v := nI 1) d_Lw_law_408 (by decide +kernel) ?_
        refine V_iaddN d_Lw_law_409 ?_
        refine V_sld (j := i + 1) d_Lw_law_410 rfl (by omega) (by omega) ?_
        refine V_aload_n d_Lw_law_411 rfl ?_
        refine V_iload_n d_Lw_law_412 rfl ?_
        refine V_iconst (v := nI 2) d_Lw_law_413 (by decide +kernel) ?_
        refine V_iaddN d_Lw_law_414 ?_
        refine V_sld (j := i + 2) d_Lw_law_415 rfl (by omega) (by omega) ?_
        refine V_aload_n d_Lw_law_416 rfl ?_
        refine V_iload_n d_Lw_law_417 rfl ?_
        refine V_iconst (v := nI 3) d_Lw_law_418 (by decide +kernel) ?_
        refine V_iaddN d_Lw_law_419 ?_
        refine V_sld (j := i + 3) d_Lw_law_420 rfl (by omega) (by omega) ?_
        refine V_aload_n d_Lw_law_421 rfl ?_
        refine V_iload_n d_Lw_law_422 rfl ?_
        refine V_iconst (v := nI 4) d_Lw_law_423 (by decide +kernel) ?_
        refine V_iaddN d_Lw_law_424 ?_
        refine V_sld (j := i + 4) d_Lw_law_425 rfl (by omega) (by omega) ?_
        refine V_if_eq (tgt := 433) d_Lw_law_426 (by decide) (fun e => absurd e hb394) (fun _ => ?_)
        refine V_iconst (v := nI 1) d_Lw_law_429 (by decide +kernel) ?_
        refine V_goto (tgt := 434) d_Lw_law_430 (by decide) ?_
        refine V_callV (As := [.int ((Γ.2.2.2.2.2 (i + 1))), .int ((Γ.2.2.2.2.2 (i + 2))), .int ((Γ.2.2.2.2.2 (i + 3))), .int (nI 1)]) (rest := [.int ((-1))]) (lo' := [some (.ref (h + 220)), some (.int ((Γ.2.2.2.2.2 (i + 1)))), some (.int ((Γ.2.2.2.2.2 (i + 2)))), some (.int ((Γ.2.2.2.2.2 (i + 3)))), some (.int (nI 1)), none]) (bc1 := 0) (bs1 := 0) (bc' := bc) (bs' := bs) d_Lw_law_434 k_Lw_law_57 mo.hd rfl rfl rfl rfl (by omega) (by omega) ?_
        rw [hx]
        refine u_Mo_transformer mo true (pB_t rfl).symm hj (fun e' => ?_) (fun k' hk' e1' e2' G2 mo2 ho2 => ?_)
        · show pV Γ m_Lw_law 437 [some (.ref Γ.2.2.2.1), some (.ref h), some (.ref (h + 220)), some (.int (nI i))] [.int ((-1)), .int ((-1))] _ G bc bs Q
          refine V_icmp_eq (tgt := 702) d_Lw_law_437 (by decide) (fun _ => ?_) (fun e => absurd rfl e)
          exact next _ _ _ _ ⟨_, _, _, _, _, _, _, _, dk, mo.mono (by omega), iv⟩ (by omega) (by omega) (by omega)
        · exact absurd (e k' hk') (by rw [e1']; decide)
      · have mo := mo.kept (fun q q1 q2 => ho1 q (by omega))
        have dk := dk1
        show pV Γ m_Lw_law 405 [some (.ref Γ.2.2.2.1), some (.ref h), some (.ref (h + 220)), some (.int (nI i))] [.int (nI k)] _ G1 bc bs Q
        refine V_aload_n d_Lw_law_405 rfl ?_
        refine V_aload_n d_Lw_law_406 rfl ?_
        refine V_iload_n d_Lw_law_407 rfl ?_
        refine V_iconst (v := nI 1) d_Lw_law_408 (by decide +kernel) ?_
        refine V_iaddN d_Lw_law_409 ?_
        refine V_sld (j := i + 1) d_Lw_law_410 rfl (by omega) (by omega) ?_
        refine V_aload_n d_Lw_law_411 rfl ?_
        refine V_iload_n d_Lw_law_412 rfl ?_
        refine V_iconst (v := nI 2) d_Lw_law_413 (by decide +kernel) ?_
        refine V_iaddN d_Lw_law_414 ?_
        refine V_sld (j := i + 2) d_Lw_law_415 rfl (by omega) (by omega) ?_
        refine V_aload_n d_Lw_law_416 rfl ?_
        refine V_iload_n d_Lw_law_417 rfl ?_
        refine V_iconst (v := nI 3) d_Lw_law_418 (by decide +kernel) ?_
        refine V_iaddN d_Lw_law_419 ?_
        refine V_sld (j := i + 3) d_Lw_law_420 rfl (by omega) (by omega) ?_
        refine V_aload_n d_Lw_law_421 rfl ?_
        refine V_iload_n d_Lw_law_422 rfl ?_
        refine V_iconst (v := nI 4) d_Lw_law_423 (by decide +kernel) ?_
        refine V_iaddN d_Lw_law_424 ?_
        refine V_sld (j := i + 4) d_Lw_law_425 rfl (by omega) (by omega) ?_
        refine V_if_eq (tgt := 433) d_Lw_law_426 (by decide) (fun e => absurd e hb394) (fun _ => ?_)
        refine V_iconst (v := nI 1) d_Lw_law_429 (by decide +kernel) ?_
        refine V_goto (tgt := 434) d_Lw_law_430 (by decide) ?_
        refine V_callV (As := [.int ((Γ.2.2.2.2.2 (i + 1))), .int ((Γ.2.2.2.2.2 (i + 2))), .int ((Γ.2.2.2.2.2 (i + 3))), .int (nI 1)]) (rest := [.int (nI k)]) (lo' := [some (.ref (h + 220)), some (.int ((Γ.2.2.2.2.2 (i + 1)))), some (.int ((Γ.2.2.2.2.2 (i + 2)))), some (.int ((Γ.2.2.2.2.2 (i + 3)))), some (.int (nI 1)), none]) (bc1 := 0) (bs1 := 0) (bc' := bc) (bs' := bs) d_Lw_law_434 k_Lw_law_57 mo.hd rfl rfl rfl rfl (by omega) (by omega) ?_
        rw [hx]
        refine u_Mo_transformer mo true (pB_t rfl).symm hj (fun e' => ?_) (fun k' hk' e1' e2' G2 mo2 ho2 => ?_)
        · exact absurd (e' k hk) (by rw [e1]; decide)
        · have ek : k = k' := by
            rcases Nat.lt_trichotomy k' k with q | q | q
            · exact absurd (e2 k' q) (by rw [e1']; decide)
            · exact q.symm
            · exact absurd (e2' k q) (by rw [e1]; decide)
          subst ek
          have dk := dk.kept (fun q hq => ho2 q (by omega))
          have mo := mo2
          show pV Γ m_Lw_law 437 [some (.ref Γ.2.2.2.1), some (.ref h), some (.ref (h + 220)), some (.int (nI i))] [.int (nI k), .int (nI k)] _ G2 bc bs Q
          refine V_icmp_eq (tgt := 702) d_Lw_law_437 (by decide) (fun _ => ?_) (fun e => absurd rfl e)
          exact next _ _ _ _ ⟨_, _, _, _, _, _, _, _, dk, mo.mono (by omega), iv⟩ (by omega) (by omega) (by omega)
set_option maxHeartbeats 1000000 in
theorem lw_case10 {Γ : pmE} {G : pmG} {n : Nat} {Q : pmPost} {h i N bc bs bR sR : Nat} (hL : Γ.2.2.2.2.1 ≤ 2560) (hi : i + 5 ≤ Γ.2.2.2.2.1) (hN : N < 2 ^ 31) (hbc : bR + 35 ≤ bc) (hbs : sR + 249 ≤ bs) (hn : h + 238 ≤ n) (hS : lwS G h n N) (next : ∀ n' G' bc' bs', lwS G' h n' (N + 3) → bR ≤ bc' → sR ≤ bs' → h + 238 ≤ n' → pV Γ m_Lw_law 702 [some (.ref Γ.2.2.2.1), some (.ref h), some (.ref (h + 220)), some (.int (nI i))] [] n' G' bc' bs' Q) : pV Γ m_Lw_law 442 [some (.ref Γ.2.2.2.1), some (.ref h), some (.ref (h + 220)), some (.int (nI i))] [] n G bc bs Q := by
  obtain ⟨f, D, ch, ld, trs, nb, bt, th, dk, mo, iv⟩ := hS
  rcases pk_ix (Γ.2.2.2.2.2 (i + 1)) (n := 5) (by omega) with hx | hx | ⟨j, hj, hx⟩
  · refine V_aload_n d_Lw_law_442 rfl ?_
    refine V_aload_n d_Lw_law_443 rfl ?_
    refine V_iload_n d_Lw_law_444 rfl ?_
    refine V_iconst (v := nI 1) d_Lw_law_445 (by decide +kernel) ?_
    refine V_iaddN d_Lw_law_446 ?_
    refine V_sld (j := i + 1) d_Lw_law_447 rfl (by omega) (by omega) ?_
    refine V_callV (As := [.int ((Γ.2.2.2.2.2 (i + 1)))]) (rest := []) (lo' := [some (.ref h), some (.int ((Γ.2.2.2.2.2 (i + 1))))]) (bc1 := 0) (bs1 := 0) (bc' := bc) (bs' := bs) d_Lw_law_448 k_Lw_law_58 dk.1 rfl rfl rfl rfl (by omega) (by omega) ?_
    refine c_HE_removeF dk (Or.inl hx) ?_
    · show pV Γ m_Lw_law 451 [some (.ref Γ.2.2.2.1), some (.ref h), some (.ref (h + 220)), some (.int (nI i))] [.int (nI 0)] _ G bc bs Q
      refine V_aload_n d_Lw_law_451 rfl ?_
      refine V_aload_n d_Lw_law_452 rfl ?_
      refine V_iload_n d_Lw_law_453 rfl ?_
      refine V_iconst (v := nI 1) d_Lw_law_454 (by decide +kernel) ?_
      refine V_iaddN d_Lw_law_455 ?_
      refine V_sld (j := i + 1) d_Lw_law_456 rfl (by omega) (by omega) ?_
      refine V_callV (As := [.int ((Γ.2.2.2.2.2 (i + 1)))]) (rest := [.int (nI 0)]) (lo' := [some (.ref (h + 220)), some (.int ((Γ.2.2.2.2.2 (i + 1))))]) (bc1 := 0) (bs1 := 0) (bc' := bc) (bs' := bs) d_Lw_law_457 k_Lw_law_61 mo.hd rfl rfl rfl rfl (by omega) (by omega) ?_
      refine c_Mo_removeF (Or.inl hx) ?_
      · show pV Γ m_Lw_law 460 [some (.ref Γ.2.2.2.1), some (.ref h), some (.ref (h + 220)), some (.int (nI i))] [.int (nI 0), .int (nI 0)] _ G bc bs Q
        refine V_icmp_eq (tgt := 702) d_Lw_law_460 (by decide) (fun _ => ?_) (fun e => absurd rfl e)
        exact next _ _ _ _ ⟨_, _, _, _, _, _, _, _, dk, mo.mono (by omega), iv⟩ (by omega) (by omega) (by omega)
  · refine V_aload_n d_Lw_law_442 rfl ?_
    refine V_aload_n d_Lw_law_443 rfl ?_
    refine V_iload_n d_Lw_law_444 rfl ?_
    refine V_iconst (v := nI 1) d_Lw_law_445 (by decide +kernel) ?_
    refine V_iaddN d_Lw_law_446 ?_
    refine V_sld (j := i + 1) d_Lw_law_447 rfl (by omega) (by omega) ?_
    refine V_callV (As := [.int ((Γ.2.2.2.2.2 (i + 1)))]) (rest := []) (lo' := [some (.ref h), some (.int ((Γ.2.2.2.2.2 (i + 1))))]) (bc1 := 0) (bs1 := 0) (bc' := bc) (bs' := bs) d_Lw_law_448 k_Lw_law_58 dk.1 rfl rfl rfl rfl (by omega) (by omega) ?_
    refine c_HE_removeF dk (Or.inr hx) ?_
    · show pV Γ m_Lw_law 451 [some (.ref Γ.2.2.2.1), some (.ref h), some (.ref (h + 220)), some (.int (nI i))] [.int (nI 0)] _ G bc bs Q
      refine V_aload_n d_Lw_law_451 rfl ?_
      refine V_aload_n d_Lw_law_452 rfl ?_
      refine V_iload_n d_Lw_law_453 rfl ?_
      refine V_iconst (v := nI 1) d_Lw_law_454 (by decide +kernel) ?_
      refine V_iaddN d_Lw_law_455 ?_
      refine V_sld (j := i + 1) d_Lw_law_456 rfl (by omega) (by omega) ?_
      refine V_callV (As := [.int ((Γ.2.2.2.2.2 (i + 1)))]) (rest := [.int (nI 0)]) (lo' := [some (.ref (h + 220)), some (.int ((Γ.2.2.2.2.2 (i + 1))))]) (bc1 := 0) (bs1 := 0) (bc' := bc) (bs' := bs) d_Lw_law_457 k_Lw_law_61 mo.hd rfl rfl rfl rfl (by omega) (by omega) ?_
      refine c_Mo_removeF (Or.inr hx) ?_
      · show pV Γ m_Lw_law 460 [some (.ref Γ.2.2.2.1), some (.ref h), some (.ref (h + 220)), some (.int (nI i))] [.int (nI 0), .int (nI 0)] _ G bc bs Q
        refine V_icmp_eq (tgt := 702) d_Lw_law_460 (by decide) (fun _ => ?_) (fun e => absurd rfl e)
        exact next _ _ _ _ ⟨_, _, _, _, _, _, _, _, dk, mo.mono (by omega), iv⟩ (by omega) (by omega) (by omega)
  · refine V_aload_n d_Lw_law_442 rfl ?_
    refine V_aload_n d_Lw_law_443 rfl ?_
    refine V_iload_n d_Lw_law_444 rfl ?_
    refine V_iconst (v := nI 1) d_Lw_law_445 (by decide +kernel) ?_
    refine V_iaddN d_Lw_law_446 ?_
    refine V_sld (j := i + 1) d_Lw_law_447 rfl (by omega) (by omega) ?_
    refine V_callV (As := [.int ((Γ.2.2.2.2.2 (i + 1)))]) (rest := []) (lo' := [some (.ref h), some (.int ((Γ.2.2.2.2.2 (i + 1))))]) (bc1 := 0) (bs1 := 0) (bc' := bc) (bs' := bs) d_Lw_law_448 k_Lw_law_58 dk.1 rfl rfl rfl rfl (by omega) (by omega) ?_
    rw [hx]
    refine c_HE_remove dk hj (fun e => ?_) (fun e G1 dk1 ho1 => ?_)
    · show pV Γ m_Lw_law 451 [some (.ref Γ.2.2.2.1), some (.ref h), some (.ref (h + 220)), some (.int (nI i))] [.int (nI 0)] _ G bc bs Q
      refine V_aload_n d_Lw_law_451 rfl ?_
      refine V_aload_n d_Lw_law_452 rfl ?_
      refine V_iload_n d_Lw_law_453 rfl ?_
      refine V_iconst (v := nI 1) d_Lw_law_454 (by decide +kernel) ?_
      refine V_iaddN d_Lw_law_455 ?_
      refine V_sld (j := i + 1) d_Lw_law_456 rfl (by omega) (by omega) ?_
      refine V_callV (As := [.int ((Γ.2.2.2.2.2 (i + 1)))]) (rest := [.int (nI 0)]) (lo' := [some (.ref (h + 220)), some (.int ((Γ.2.2.2.2.2 (i + 1))))]) (bc1 := 0) (bs1 := 0) (bc' := bc) (bs' := bs) d_Lw_law_457 k_Lw_law_61 mo.hd rfl rfl rfl rfl (by omega) (by omega) ?_
      rw [hx]
      refine cm_remove mo hj (fun e' => ?_) (fun e' G2 mo2 ho2 => ?_)
      · show pV Γ m_Lw_law 460 [some (.ref Γ.2.2.2.1), some (.ref h), some (.ref (h + 220)), some (.int (nI i))] [.int (nI 0), .int (nI 0)] _ G bc bs Q
        refine V_icmp_eq (tgt := 702) d_Lw_law_460 (by decide) (fun _ => ?_) (fun e => absurd rfl e)
        exact next _ _ _ _ ⟨_, _, _, _, _, _, _, _, dk, mo.mono (by omega), iv⟩ (by omega) (by omega) (by omega)
      · rw [e] at e'; cases e'
    · have mo := mo.kept (fun q q1 q2 => ho1 q (by omega))
      have dk := dk1
      show pV Γ m_Lw_law 451 [some (.ref Γ.2.2.2.1), some (.ref h), some (.ref (h + 220)), some (.int (nI i))] [.int (nI 1)] _ G1 bc bs Q
      refine V_aload_n d_Lw_law_451 rfl ?_
      refine V_aload_n d_Lw_law_452 rfl ?_
      refine V_iload_n d_Lw_law_453 rfl ?_
      refine V_iconst (v := nI 1) d_Lw_law_454 (by decide +kernel) ?_
      refine V_iaddN d_Lw_law_455 ?_
      refine V_sld (j := i + 1) d_Lw_law_456 rfl (by omega) (by omega) ?_
      refine V_callV (As := [.int ((Γ.2.2.2.2.2 (i + 1)))]) (rest := [.int (nI 1)]) (lo' := [some (.ref (h + 220)), some (.int ((Γ.2.2.2.2.2 (i + 1))))]) (bc1 := 0) (bs1 := 0) (bc' := bc) (bs' := bs) d_Lw_law_457 k_Lw_law_61 mo.hd rfl rfl rfl rfl (by omega) (by omega) ?_
      rw [hx]
      refine cm_remove mo hj (fun e' => ?_) (fun e' G2 mo2 ho2 => ?_)
      · rw [e] at e'; cases e'
      · have dk := dk.kept (fun q hq => ho2 q (by omega))
        have mo := mo2
        show pV Γ m_Lw_law 460 [some (.ref Γ.2.2.2.1), some (.ref h), some (.ref (h + 220)), some (.int (nI i))] [.int (nI 1), .int (nI 1)] _ G2 bc bs Q
        refine V_icmp_eq (tgt := 702) d_Lw_law_460 (by decide) (fun _ => ?_) (fun e => absurd rfl e)
        exact next _ _ _ _ ⟨_, _, _, _, _, _, _, _, dk, mo.mono (by omega), iv⟩ (by omega) (by omega) (by omega)
set_option maxHeartbeats 1000000 in
theorem lw_case11 {Γ : pmE} {G : pmG} {n : Nat} {Q : pmPost} {h i N bc bs bR sR : Nat} (hL : Γ.2.2.2.2.1 ≤ 2560) (hi : i + 5 ≤ Γ.2.2.2.2.1) (hN : N < 2 ^ 31) (hbc : bR + 35 ≤ bc) (hbs : sR + 249 ≤ bs) (hn : h + 238 ≤ n) (hS : lwS G h n N) (next : ∀ n' G' bc' bs', lwS G' h n' (N + 3) → bR ≤ bc' → sR ≤ bs' → h + 238 ≤ n' → pV Γ m_Lw_law 702 [some (.ref Γ.2.2.2.1), some (.ref h), some (.ref (h + 220)), some (.int (nI i))] [] n' G' bc' bs' Q) : pV Γ m_Lw_law 465 [some (.ref Γ.2.2.2.1), some (.ref h), some (.ref (h + 220)), some (.int (nI i))] [] n G bc bs Q := by
  obtain ⟨f, D, ch, ld, trs, nb, bt, th, dk, mo, iv⟩ := hS
  refine V_aload_n d_Lw_law_465 rfl ?_
  refine V_aload_n d_Lw_law_466 rfl ?_
  refine V_iload_n d_Lw_law_467 rfl ?_
  refine V_iconst (v := nI 1) d_Lw_law_468 (by decide +kernel) ?_
  refine V_iaddN d_Lw_law_469 ?_
  refine V_sld (j := i + 1) d_Lw_law_470 rfl (by omega) (by omega) ?_
  refine V_callV (As := [.int ((Γ.2.2.2.2.2 (i + 1)))]) (rest := []) (lo' := [some (.ref h), some (.int ((Γ.2.2.2.2.2 (i + 1))))]) (bc1 := 0) (bs1 := 0) (bc' := bc) (bs' := bs) d_Lw_law_471 k_Lw_law_62 dk.1 rfl rfl rfl rfl (by omega) (by omega) ?_
  refine c_HE_queue dk (fun e => ?_) (fun e1 e2 e3 G1 dk1 ho1 => ?_)
  · show pV Γ m_Lw_law 474 [some (.ref Γ.2.2.2.1), some (.ref h), some (.ref (h + 220)), some (.int (nI i))] [.int (nI 0)] _ G bc bs Q
    refine V_aload_n d_Lw_law_474 rfl ?_
    refine V_aload_n d_Lw_law_475 rfl ?_
    refine V_iload_n d_Lw_law_476 rfl ?_
    refine V_iconst (v := nI 1) d_Lw_law_477 (by decide +kernel) ?_
    refine V_iaddN d_Lw_law_478 ?_
    refine V_sld (j := i + 1) d_Lw_law_479 rfl (by omega) (by omega) ?_
    refine V_callV (As := [.int ((Γ.2.2.2.2.2 (i + 1)))]) (rest := [.int (nI 0)]) (lo' := [some (.ref (h + 220)), some (.int ((Γ.2.2.2.2.2 (i + 1)))), none]) (bc1 := 0) (bs1 := 0) (bc' := bc) (bs' := bs) d_Lw_law_480 k_Lw_law_65 mo.hd rfl rfl rfl rfl (by omega) (by omega) ?_
    refine cm_queue mo (fun e' => ?_) (fun e1' e2' e3' G2 mo2 ho2 => ?_)
    · show pV Γ m_Lw_law 483 [some (.ref Γ.2.2.2.1), some (.ref h), some (.ref (h + 220)), some (.int (nI i))] [.int (nI 0), .int (nI 0)] _ G bc bs Q
      refine V_icmp_eq (tgt := 702) d_Lw_law_483 (by decide) (fun _ => ?_) (fun e => absurd rfl e)
      exact next _ _ _ _ ⟨_, _, _, _, _, _, _, _, dk, mo.mono (by omega), iv⟩ (by omega) (by omega) (by omega)
    · exact e.elim (fun q => absurd e1' q) (fun q => q.elim (fun q => absurd q (by omega)) (fun ⟨i', hi', q⟩ => absurd q (e3' i' hi')))
  · have mo := mo.kept (fun q q1 q2 => ho1 q (by omega))
    have dk := dk1
    show pV Γ m_Lw_law 474 [some (.ref Γ.2.2.2.1), some (.ref h), some (.ref (h + 220)), some (.int (nI i))] [.int (nI 1)] _ G1 bc bs Q
    refine V_aload_n d_Lw_law_474 rfl ?_
    refine V_aload_n d_Lw_law_475 rfl ?_
    refine V_iload_n d_Lw_law_476 rfl ?_
    refine V_iconst (v := nI 1) d_Lw_law_477 (by decide +kernel) ?_
    refine V_iaddN d_Lw_law_478 ?_
    refine V_sld (j := i + 1) d_Lw_law_479 rfl (by omega) (by omega) ?_
    refine V_callV (As := [.int ((Γ.2.2.2.2.2 (i + 1)))]) (rest := [.int (nI 1)]) (lo' := [some (.ref (h + 220)), some (.int ((Γ.2.2.2.2.2 (i + 1)))), none]) (bc1 := 0) (bs1 := 0) (bc' := bc) (bs' := bs) d_Lw_law_480 k_Lw_law_65 mo.hd rfl rfl rfl rfl (by omega) (by omega) ?_
    refine cm_queue mo (fun e' => ?_) (fun e1' e2' e3' G2 mo2 ho2 => ?_)
    · exact e'.elim (fun q => absurd e1 q) (fun q => q.elim (fun q => absurd q (by omega)) (fun ⟨i', hi', q⟩ => absurd q (e3 i' hi')))
    · have dk := dk.kept (fun q hq => ho2 q (by omega))
      have mo := mo2
      show pV Γ m_Lw_law 483 [some (.ref Γ.2.2.2.1), some (.ref h), some (.ref (h + 220)), some (.int (nI i))] [.int (nI 1), .int (nI 1)] _ G2 bc bs Q
      refine V_icmp_eq (tgt := 702) d_Lw_law_483 (by decide) (fun _ => ?_) (fun e => absurd rfl e)
      exact next _ _ _ _ ⟨_, _, _, _, _, _, _, _, dk, mo.mono (by omega), iv.queue e1⟩ (by omega) (by omega) (by omega)
set_option maxHeartbeats 1000000 in
theorem lw_case12 {Γ : pmE} {G : pmG} {n : Nat} {Q : pmPost} {h i N bc bs bR sR : Nat} (hL : Γ.2.2.2.2.1 ≤ 2560) (hi : i + 5 ≤ Γ.2.2.2.2.1) (hN : N < 2 ^ 31) (hbc : bR + 35 ≤ bc) (hbs : sR + 249 ≤ bs) (hn : h + 238 ≤ n) (hS : lwS G h n N) (next : ∀ n' G' bc' bs', lwS G' h n' (N + 3) → bR ≤ bc' → sR ≤ bs' → h + 238 ≤ n' → pV Γ m_Lw_law 702 [some (.ref Γ.2.2.2.1), some (.ref h), some (.ref (h + 220)), some (.int (nI i))] [] n' G' bc' bs' Q) : pV Γ m_Lw_law 488 [some (.ref Γ.2.2.2.1), some (.ref h), some (.ref (h + 220)), some (.int (nI i))] [] n G bc bs Q := by
  obtain ⟨f, D, ch, ld, trs, nb, bt, th, dk, mo, iv⟩ := hS
  have hokb := mo.ok.2.1
  refine V_aload_n d_Lw_law_488 rfl ?_
  refine V_callV (As := []) (rest := []) (lo' := [some (.ref h), none]) (bc1 := 0) (bs1 := 0) (bc' := bc) (bs' := bs) d_Lw_law_489 k_Lw_law_66 dk.1 rfl rfl rfl rfl (by omega) (by omega) ?_
  refine c_HE_swap dk iv.1 (fun e G1 dk1 ho1 => ?_) (fun k hk e1 e2 G1 dk1 ho1 => ?_)
  · have mo := mo.kept (fun q q1 q2 => ho1 q (by omega))
    have dk := dk1
    show pV Γ m_Lw_law 492 [some (.ref Γ.2.2.2.1), some (.ref h), some (.ref (h + 220)), some (.int (nI i))] [.int (nI 0)] _ G1 bc bs Q
    refine V_aload_n d_Lw_law_492 rfl ?_
    refine V_callV (As := []) (rest := [.int (nI 0)]) (lo' := [some (.ref (h + 220)), none, none, none]) (bc1 := 0) (bs1 := 0) (bc' := bc) (bs' := bs) d_Lw_law_493 k_Lw_law_69 mo.hd rfl rfl rfl rfl (by omega) (by omega) ?_
    refine cm_swap mo iv.2.1 iv.1 (fun e' G2 mo2 ho2 => ?_) (fun k' hk' e1' e2' G2 mo2 ho2 => ?_)
    · have dk := dk.kept (fun q hq => ho2 q (by omega))
      have mo := mo2
      show pV Γ m_Lw_law 496 [some (.ref Γ.2.2.2.1), some (.ref h), some (.ref (h + 220)), some (.int (nI i))] [.int (nI 0), .int (nI 0)] _ G2 bc bs Q
      refine V_icmp_eq (tgt := 702) d_Lw_law_496 (by decide) (fun _ => ?_) (fun e => absurd rfl e)
      exact next _ _ _ _ ⟨_, _, _, _, _, _, _, _, dk, mo.mono (by omega), iv.swap e (fun k hk => by rw [dTr_nm]; exact (hokb k hk).2.2.1)⟩ (by omega) (by omega) (by omega)
    · exact absurd (e k' hk') e1'
  · have mo := mo.kept (fun q q1 q2 => ho1 q (by omega))
    have dk := dk1
    show pV Γ m_Lw_law 492 [some (.ref Γ.2.2.2.1), some (.ref h), some (.ref (h + 220)), some (.int (nI i))] [.int ((nI 16 * (bt k).1 + nI (swR ld trs (bt k).1 (bt k).2)))] _ G1 bc bs Q
    refine V_aload_n d_Lw_law_492 rfl ?_
    refine V_callV (As := []) (rest := [.int ((nI 16 * (bt k).1 + nI (swR ld trs (bt k).1 (bt k).2)))]) (lo' := [some (.ref (h + 220)), none, none, none]) (bc1 := 0) (bs1 := 0) (bc' := bc) (bs' := bs) d_Lw_law_493 k_Lw_law_69 mo.hd rfl rfl rfl rfl (by omega) (by omega) ?_
    refine cm_swap mo iv.2.1 iv.1 (fun e' G2 mo2 ho2 => ?_) (fun k' hk' e1' e2' G2 mo2 ho2 => ?_)
    · exact absurd (e' k hk) e1
    · have ek : k = k' := by
        rcases Nat.lt_trichotomy k' k with q | q | q
        · exact absurd (e2 k' q) e1'
        · exact q.symm
        · exact absurd (e2' k q) e1
      subst ek
      have dk := dk.kept (fun q hq => ho2 q (by omega))
      have mo := mo2
      show pV Γ m_Lw_law 496 [some (.ref Γ.2.2.2.1), some (.ref h), some (.ref (h + 220)), some (.int (nI i))] [.int ((nI 16 * (bt k).1 + nI (swR ld trs (bt k).1 (bt k).2))), .int ((nI 16 * (bt k).1 + nI (swR ld trs (bt k).1 (bt k).2)))] _ G2 bc bs Q
      refine V_icmp_eq (tgt := 702) d_Lw_law_496 (by decide) (fun _ => ?_) (fun e => absurd rfl e)
      exact next _ _ _ _ ⟨_, _, _, _, _, _, _, _, dk, mo.mono (by omega), ⟨fun k hk => absurd hk (Nat.not_lt_zero _), iv.2⟩⟩ (by omega) (by omega) (by omega)
set_option maxHeartbeats 1000000 in
theorem lw_case13 {Γ : pmE} {G : pmG} {n : Nat} {Q : pmPost} {h i N bc bs bR sR : Nat} (hL : Γ.2.2.2.2.1 ≤ 2560) (hi : i + 5 ≤ Γ.2.2.2.2.1) (hN : N < 2 ^ 31) (hbc : bR + 35 ≤ bc) (hbs : sR + 249 ≤ bs) (hn : h + 238 ≤ n) (hS : lwS G h n N) (next : ∀ n' G' bc' bs', lwS G' h n' (N + 3) → bR ≤ bc' → sR ≤ bs' → h + 238 ≤ n' → pV Γ m_Lw_law 702 [some (.ref Γ.2.2.2.1), some (.ref h), some (.ref (h + 220)), some (.int (nI i))] [] n' G' bc' bs' Q) : pV Γ m_Lw_law 501 [some (.ref Γ.2.2.2.1), some (.ref h), some (.ref (h + 220)), some (.int (nI i))] [] n G bc bs Q := by
  obtain ⟨f, D, ch, ld, trs, nb, bt, th, dk, mo, iv⟩ := hS
  have hokl := mo.ok.2.2
  refine V_aload_n d_Lw_law_501 rfl ?_
  refine V_aload_n d_Lw_law_502 rfl ?_
  refine V_iload_n d_Lw_law_503 rfl ?_
  refine V_iconst (v := nI 1) d_Lw_law_504 (by decide +kernel) ?_
  refine V_iaddN d_Lw_law_505 ?_
  refine V_sld (j := i + 1) d_Lw_law_506 rfl (by omega) (by omega) ?_
  refine V_callV (As := [.int ((Γ.2.2.2.2.2 (i + 1)))]) (rest := []) (lo' := [some (.ref h), some (.int ((Γ.2.2.2.2.2 (i + 1)))), none, none]) (bc1 := 0) (bs1 := 0) (bc' := bc) (bs' := bs) d_Lw_law_507 k_Lw_law_70 dk.1 rfl rfl rfl rfl (by omega) (by omega) ?_
  refine c_HE_repeat dk (fun e => ?_) (fun c L hc hx hl e G1 dk1 ho1 => ?_) (fun c L hc hx hl e G1 dk1 ho1 => ?_)
  · show pV Γ m_Lw_law 510 [some (.ref Γ.2.2.2.1), some (.ref h), some (.ref (h + 220)), some (.int (nI i))] [.int ((-1))] _ G bc bs Q
    refine V_aload_n d_Lw_law_510 rfl ?_
    refine V_aload_n d_Lw_law_511 rfl ?_
    refine V_iload_n d_Lw_law_512 rfl ?_
    refine V_iconst (v := nI 1) d_Lw_law_513 (by decide +kernel) ?_
    refine V_iaddN d_Lw_law_514 ?_
    refine V_sld (j := i + 1) d_Lw_law_515 rfl (by omega) (by omega) ?_
    refine V_callV (As := [.int ((Γ.2.2.2.2.2 (i + 1)))]) (rest := [.int ((-1))]) (lo' := [some (.ref (h + 220)), some (.int ((Γ.2.2.2.2.2 (i + 1)))), none]) (bc1 := 0) (bs1 := 0) (bc' := bc) (bs' := bs) d_Lw_law_516 k_Lw_law_74 mo.hd rfl rfl rfl rfl (by omega) (by omega) ?_
    refine cm_repeat mo iv.2.1 (fun e' => ?_) (fun c' L' hc' hx' hl' e' G2 mo2 ho2 => ?_) (fun c' L' hc' hx' hl' e' G2 mo2 ho2 => ?_)
    · show pV Γ m_Lw_law 519 [some (.ref Γ.2.2.2.1), some (.ref h), some (.ref (h + 220)), some (.int (nI i))] [.int ((-1)), .int ((-1))] _ G bc bs Q
      refine V_icmp_eq (tgt := 702) d_Lw_law_519 (by decide) (fun _ => ?_) (fun e => absurd rfl e)
      exact next _ _ _ _ ⟨_, _, _, _, _, _, _, _, dk, mo.mono (by omega), iv⟩ (by omega) (by omega) (by omega)
    · exact absurd ⟨c', hc', hx', L', hl'⟩ e
    · exact absurd ⟨c', hc', hx', L', hl'⟩ e
  · have mo := mo.kept (fun q q1 q2 => ho1 q (by omega))
    have dk := dk1
    show pV Γ m_Lw_law 510 [some (.ref Γ.2.2.2.1), some (.ref h), some (.ref (h + 220)), some (.int (nI i))] [.int (nI ((pRule ld (dChgs trs (Γ.2.2.2.2.2 (i + 1)) true L.2.2 5) (Γ.2.2.2.2.2 (i + 1)) L.2.1)))] _ G1 bc bs Q
    refine V_aload_n d_Lw_law_510 rfl ?_
    refine V_aload_n d_Lw_law_511 rfl ?_
    refine V_iload_n d_Lw_law_512 rfl ?_
    refine V_iconst (v := nI 1) d_Lw_law_513 (by decide +kernel) ?_
    refine V_iaddN d_Lw_law_514 ?_
    refine V_sld (j := i + 1) d_Lw_law_515 rfl (by omega) (by omega) ?_
    refine V_callV (As := [.int ((Γ.2.2.2.2.2 (i + 1)))]) (rest := [.int (nI ((pRule ld (dChgs trs (Γ.2.2.2.2.2 (i + 1)) true L.2.2 5) (Γ.2.2.2.2.2 (i + 1)) L.2.1)))]) (lo' := [some (.ref (h + 220)), some (.int ((Γ.2.2.2.2.2 (i + 1)))), none]) (bc1 := 0) (bs1 := 0) (bc' := bc) (bs' := bs) d_Lw_law_516 k_Lw_law_74 mo.hd rfl rfl rfl rfl (by omega) (by omega) ?_
    refine cm_repeat mo iv.2.1 (fun e' => ?_) (fun c' L' hc' hx' hl' e' G2 mo2 ho2 => ?_) (fun c' L' hc' hx' hl' e' G2 mo2 ho2 => ?_)
    · exact absurd ⟨c, hc, hx, L, hl⟩ e'
    · have ec : c' = c := (nI_eq (by omega) (by omega)).mp (hx'.symm.trans hx)
      subst ec
      rw [hl] at hl'
      cases hl'
      have dk := dk.kept (fun q hq => ho2 q (by omega))
      have mo := mo2
      show pV Γ m_Lw_law 519 [some (.ref Γ.2.2.2.1), some (.ref h), some (.ref (h + 220)), some (.int (nI i))] [.int (nI ((pRule ld (dChgs trs (Γ.2.2.2.2.2 (i + 1)) true L.2.2 5) (Γ.2.2.2.2.2 (i + 1)) L.2.1))), .int (nI ((pRule ld (dChgs trs (Γ.2.2.2.2.2 (i + 1)) true L.2.2 5) (Γ.2.2.2.2.2 (i + 1)) L.2.1)))] _ G2 bc bs Q
      refine V_icmp_eq (tgt := 702) d_Lw_law_519 (by decide) (fun _ => ?_) (fun e => absurd rfl e)
      exact next _ _ _ _ ⟨_, _, _, _, _, _, _, _, dk, mo.mono (by omega), iv⟩ (by omega) (by omega) (by omega)
    · have e0 := pLd_u hc hx hl hc' hx' hl'
      subst e0
      exact absurd e' e
  · have mo := mo.kept (fun q q1 q2 => ho1 q (by omega))
    have dk := dk1
    show pV Γ m_Lw_law 510 [some (.ref Γ.2.2.2.1), some (.ref h), some (.ref (h + 220)), some (.int (nI i))] [.int (nI 0)] _ G1 bc bs Q
    refine V_aload_n d_Lw_law_510 rfl ?_
    refine V_aload_n d_Lw_law_511 rfl ?_
    refine V_iload_n d_Lw_law_512 rfl ?_
    refine V_iconst (v := nI 1) d_Lw_law_513 (by decide +kernel) ?_
    refine V_iaddN d_Lw_law_514 ?_
    refine V_sld (j := i + 1) d_Lw_law_515 rfl (by omega) (by omega) ?_
    refine V_callV (As := [.int ((Γ.2.2.2.2.2 (i + 1)))]) (rest := [.int (nI 0)]) (lo' := [some (.ref (h + 220)), some (.int ((Γ.2.2.2.2.2 (i + 1)))), none]) (bc1 := 0) (bs1 := 0) (bc' := bc) (bs' := bs) d_Lw_law_516 k_Lw_law_74 mo.hd rfl rfl rfl rfl (by omega) (by omega) ?_
    refine cm_repeat mo iv.2.1 (fun e' => ?_) (fun c' L' hc' hx' hl' e' G2 mo2 ho2 => ?_) (fun c' L' hc' hx' hl' e' G2 mo2 ho2 => ?_)
    · exact absurd ⟨c, hc, hx, L, hl⟩ e'
    · have e0 := pLd_u hc hx hl hc' hx' hl'
      subst e0
      exact absurd e e'
    · have ec : c' = c := (nI_eq (by omega) (by omega)).mp (hx'.symm.trans hx)
      subst ec
      rw [hl] at hl'
      cases hl'
      have dk := dk.kept (fun q hq => ho2 q (by omega))
      have mo := mo2
      show pV Γ m_Lw_law 519 [some (.ref Γ.2.2.2.1), some (.ref h), some (.ref (h + 220)), some (.int (nI i))] [.int (nI 0), .int (nI 0)] _ G2 bc bs Q
      refine V_icmp_eq (tgt := 702) d_Lw_law_519 (by decide) (fun _ => ?_) (fun e => absurd rfl e)
      exact next _ _ _ _ ⟨_, _, _, _, _, _, _, _, dk, mo.mono (by omega), iv.rep hc' hl (by rw [← hx]; exact e) (by rw [dChgs_nm]; exact (hokl _ _ hc' hl).2.2.2.1)⟩ (by omega) (by omega) (by omega)
set_option maxHeartbeats 1000000 in
theorem lw_case14 {Γ : pmE} {G : pmG} {n : Nat} {Q : pmPost} {h i N bc bs bR sR : Nat} (hL : Γ.2.2.2.2.1 ≤ 2560) (hi : i + 5 ≤ Γ.2.2.2.2.1) (hN : N < 2 ^ 31) (hbc : bR + 35 ≤ bc) (hbs : sR + 249 ≤ bs) (hn : h + 238 ≤ n) (hS : lwS G h n N) (next : ∀ n' G' bc' bs', lwS G' h n' (N + 3) → bR ≤ bc' → sR ≤ bs' → h + 238 ≤ n' → pV Γ m_Lw_law 702 [some (.ref Γ.2.2.2.1), some (.ref h), some (.ref (h + 220)), some (.int (nI i))] [] n' G' bc' bs' Q) : pV Γ m_Lw_law 524 [some (.ref Γ.2.2.2.1), some (.ref h), some (.ref (h + 220)), some (.int (nI i))] [] n G bc bs Q := by
  obtain ⟨f, D, ch, ld, trs, nb, bt, th, dk, mo, iv⟩ := hS
  by_cases hx : ∃ j, j < 3 ∧ (Γ.2.2.2.2.2 (i + 1)) = nI j
  · obtain ⟨j, hj, hx⟩ := hx
    refine V_aload_n d_Lw_law_524 rfl ?_
    refine V_aload_n d_Lw_law_525 rfl ?_
    refine V_iload_n d_Lw_law_526 rfl ?_
    refine V_iconst (v := nI 1) d_Lw_law_527 (by decide +kernel) ?_
    refine V_iaddN d_Lw_law_528 ?_
    refine V_sld (j := i + 1) d_Lw_law_529 rfl (by omega) (by omega) ?_
    refine V_aload_n d_Lw_law_530 rfl ?_
    refine V_iload_n d_Lw_law_531 rfl ?_
    refine V_iconst (v := nI 2) d_Lw_law_532 (by decide +kernel) ?_
    refine V_iaddN d_Lw_law_533 ?_
    refine V_sld (j := i + 2) d_Lw_law_534 rfl (by omega) (by omega) ?_
    refine V_aload_n d_Lw_law_535 rfl ?_
    refine V_iload_n d_Lw_law_536 rfl ?_
    refine V_iconst (v := nI 3) d_Lw_law_537 (by decide +kernel) ?_
    refine V_iaddN d_Lw_law_538 ?_
    refine V_sld (j := i + 3) d_Lw_law_539 rfl (by omega) (by omega) ?_
    refine V_callV (As := [.int ((Γ.2.2.2.2.2 (i + 1))), .int ((Γ.2.2.2.2.2 (i + 2))), .int ((Γ.2.2.2.2.2 (i + 3)))]) (rest := []) (lo' := [some (.ref h), some (.int ((Γ.2.2.2.2.2 (i + 1)))), some (.int ((Γ.2.2.2.2.2 (i + 2)))), some (.int ((Γ.2.2.2.2.2 (i + 3))))]) (bc1 := 0) (bs1 := 0) (bc' := bc) (bs' := bs) d_Lw_law_540 k_Lw_law_75 dk.1 rfl rfl rfl rfl (by omega) (by omega) ?_
    rw [hx]
    refine c_HE_start dk hj (fun e => ?_) (fun e1 e2 => ?_) (fun e1 t' e2 G1 dk1 ho1 => ?_)
    · show pV Γ m_Lw_law 543 [some (.ref Γ.2.2.2.1), some (.ref h), some (.ref (h + 220)), some (.int (nI i))] [.int (nI 0)] _ G bc bs Q
      refine V_aload_n d_Lw_law_543 rfl ?_
      refine V_aload_n d_Lw_law_544 rfl ?_
      refine V_iload_n d_Lw_law_545 rfl ?_
      refine V_iconst (v := nI 1) d_Lw_law_546 (by decide +kernel) ?_
      refine V_iaddN d_Lw_law_547 ?_
      refine V_sld (j := i + 1) d_Lw_law_548 rfl (by omega) (by omega) ?_
      refine V_aload_n d_Lw_law_549 rfl ?_
      refine V_iload_n d_Lw_law_550 rfl ?_
      refine V_iconst (v := nI 2) d_Lw_law_551 (by decide +kernel) ?_
      refine V_iaddN d_Lw_law_552 ?_
      refine V_sld (j := i + 2) d_Lw_law_553 rfl (by omega) (by omega) ?_
      refine V_aload_n d_Lw_law_554 rfl ?_
      refine V_iload_n d_Lw_law_555 rfl ?_
      refine V_iconst (v := nI 3) d_Lw_law_556 (by decide +kernel) ?_
      refine V_iaddN d_Lw_law_557 ?_
      refine V_sld (j := i + 3) d_Lw_law_558 rfl (by omega) (by omega) ?_
      refine V_callV (As := [.int ((Γ.2.2.2.2.2 (i + 1))), .int ((Γ.2.2.2.2.2 (i + 2))), .int ((Γ.2.2.2.2.2 (i + 3)))]) (rest := [.int (nI 0)]) (lo' := [some (.ref (h + 220)), some (.int ((Γ.2.2.2.2.2 (i + 1)))), some (.int ((Γ.2.2.2.2.2 (i + 2)))), some (.int ((Γ.2.2.2.2.2 (i + 3))))]) (bc1 := 0) (bs1 := 0) (bc' := bc) (bs' := bs) d_Lw_law_559 k_Lw_law_78 mo.hd rfl rfl rfl rfl (by omega) (by omega) ?_
      rw [hx]
      refine cm_start mo hj (fun e' => ?_) (fun e1' e2' => ?_) (fun e1' t2 e2' G2 mo2 ho2 => ?_)
      · show pV Γ m_Lw_law 562 [some (.ref Γ.2.2.2.1), some (.ref h), some (.ref (h + 220)), some (.int (nI i))] [.int (nI 0), .int (nI 0)] _ G bc bs Q
        refine V_icmp_eq (tgt := 702) d_Lw_law_562 (by decide) (fun _ => ?_) (fun e => absurd rfl e)
        exact next _ _ _ _ ⟨_, _, _, _, _, _, _, _, dk, mo.mono (by omega), iv⟩ (by omega) (by omega) (by omega)
      · exact absurd e1' e
      · exact absurd e1' e
    · show pV Γ m_Lw_law 543 [some (.ref Γ.2.2.2.1), some (.ref h), some (.ref (h + 220)), some (.int (nI i))] [.int (nI 0)] _ G bc bs Q
      refine V_aload_n d_Lw_law_543 rfl ?_
      refine V_aload_n d_Lw_law_544 rfl ?_
      refine V_iload_n d_Lw_law_545 rfl ?_
      refine V_iconst (v := nI 1) d_Lw_law_546 (by decide +kernel) ?_
      refine V_iaddN d_Lw_law_547 ?_
      refine V_sld (j := i + 1) d_Lw_law_548 rfl (by omega) (by omega) ?_
      refine V_aload_n d_Lw_law_549 rfl ?_
      refine V_iload_n d_Lw_law_550 rfl ?_
      refine V_iconst (v := nI 2) d_Lw_law_551 (by decide +kernel) ?_
      refine V_iaddN d_Lw_law_552 ?_
      refine V_sld (j := i + 2) d_Lw_law_553 rfl (by omega) (by omega) ?_
      refine V_aload_n d_Lw_law_554 rfl ?_
      refine V_iload_n d_Lw_law_555 rfl ?_
      refine V_iconst (v := nI 3) d_Lw_law_556 (by decide +kernel) ?_
      refine V_iaddN d_Lw_law_557 ?_
      refine V_sld (j := i + 3) d_Lw_law_558 rfl (by omega) (by omega) ?_
      refine V_callV (As := [.int ((Γ.2.2.2.2.2 (i + 1))), .int ((Γ.2.2.2.2.2 (i + 2))), .int ((Γ.2.2.2.2.2 (i + 3)))]) (rest := [.int (nI 0)]) (lo' := [some (.ref (h + 220)), some (.int ((Γ.2.2.2.2.2 (i + 1)))), some (.int ((Γ.2.2.2.2.2 (i + 2)))), some (.int ((Γ.2.2.2.2.2 (i + 3))))]) (bc1 := 0) (bs1 := 0) (bc' := bc) (bs' := bs) d_Lw_law_559 k_Lw_law_78 mo.hd rfl rfl rfl rfl (by omega) (by omega) ?_
      rw [hx]
      refine cm_start mo hj (fun e' => ?_) (fun e1' e2' => ?_) (fun e1' t2 e2' G2 mo2 ho2 => ?_)
      · exact absurd e1 e'
      · show pV Γ m_Lw_law 562 [some (.ref Γ.2.2.2.1), some (.ref h), some (.ref (h + 220)), some (.int (nI i))] [.int (nI 0), .int (nI 0)] _ G bc bs Q
        refine V_icmp_eq (tgt := 702) d_Lw_law_562 (by decide) (fun _ => ?_) (fun e => absurd rfl e)
        exact next _ _ _ _ ⟨_, _, _, _, _, _, _, _, dk, mo.mono (by omega), iv⟩ (by omega) (by omega) (by omega)
      · rw [e2] at e2'; cases e2'
    · have mo := mo.kept (fun q q1 q2 => ho1 q (by omega))
      have dk := dk1
      show pV Γ m_Lw_law 543 [some (.ref Γ.2.2.2.1), some (.ref h), some (.ref (h + 220)), some (.int (nI i))] [.int (nI 1)] _ G1 bc bs Q
      refine V_aload_n d_Lw_law_543 rfl ?_
      refine V_aload_n d_Lw_law_544 rfl ?_
      refine V_iload_n d_Lw_law_545 rfl ?_
      refine V_iconst (v := nI 1) d_Lw_law_546 (by decide +kernel) ?_
      refine V_iaddN d_Lw_law_547 ?_
      refine V_sld (j := i + 1) d_Lw_law_548 rfl (by omega) (by omega) ?_
      refine V_aload_n d_Lw_law_549 rfl ?_
      refine V_iload_n d_Lw_law_550 rfl ?_
      refine V_iconst (v := nI 2) d_Lw_law_551 (by decide +kernel) ?_
      refine V_iaddN d_Lw_law_552 ?_
      refine V_sld (j := i + 2) d_Lw_law_553 rfl (by omega) (by omega) ?_
      refine V_aload_n d_Lw_law_554 rfl ?_
      refine V_iload_n d_Lw_law_555 rfl ?_
      refine V_iconst (v := nI 3) d_Lw_law_556 (by decide +kernel) ?_
      refine V_iaddN d_Lw_law_557 ?_
      refine V_sld (j := i + 3) d_Lw_law_558 rfl (by omega) (by omega) ?_
      refine V_callV (As := [.int ((Γ.2.2.2.2.2 (i + 1))), .int ((Γ.2.2.2.2.2 (i + 2))), .int ((Γ.2.2.2.2.2 (i + 3)))]) (rest := [.int (nI 1)]) (lo' := [some (.ref (h + 220)), some (.int ((Γ.2.2.2.2.2 (i + 1)))), some (.int ((Γ.2.2.2.2.2 (i + 2)))), some (.int ((Γ.2.2.2.2.2 (i + 3))))]) (bc1 := 0) (bs1 := 0) (bc' := bc) (bs' := bs) d_Lw_law_559 k_Lw_law_78 mo.hd rfl rfl rfl rfl (by omega) (by omega) ?_
      rw [hx]
      refine cm_start mo hj (fun e' => ?_) (fun e1' e2' => ?_) (fun e1' t2 e2' G2 mo2 ho2 => ?_)
      · exact absurd e1 e'
      · rw [e2] at e2'; cases e2'
      · rw [e2] at e2'
        cases e2'
        have dk := dk.kept (fun q hq => ho2 q (by omega))
        have mo := mo2
        show pV Γ m_Lw_law 562 [some (.ref Γ.2.2.2.1), some (.ref h), some (.ref (h + 220)), some (.int (nI i))] [.int (nI 1), .int (nI 1)] _ G2 bc bs Q
        refine V_icmp_eq (tgt := 702) d_Lw_law_562 (by decide) (fun _ => ?_) (fun e => absurd rfl e)
        exact next _ _ _ _ ⟨_, _, _, _, _, _, _, _, dk, mo.mono (by omega), iv.th (okT.ent iv.2.1 (iv.2.2 j hj) e2)⟩ (by omega) (by omega) (by omega)
  · refine V_aload_n d_Lw_law_524 rfl ?_
    refine V_aload_n d_Lw_law_525 rfl ?_
    refine V_iload_n d_Lw_law_526 rfl ?_
    refine V_iconst (v := nI 1) d_Lw_law_527 (by decide +kernel) ?_
    refine V_iaddN d_Lw_law_528 ?_
    refine V_sld (j := i + 1) d_Lw_law_529 rfl (by omega) (by omega) ?_
    refine V_aload_n d_Lw_law_530 rfl ?_
    refine V_iload_n d_Lw_law_531 rfl ?_
    refine V_iconst (v := nI 2) d_Lw_law_532 (by decide +kernel) ?_
    refine V_iaddN d_Lw_law_533 ?_
    refine V_sld (j := i + 2) d_Lw_law_534 rfl (by omega) (by omega) ?_
    refine V_aload_n d_Lw_law_535 rfl ?_
    refine V_iload_n d_Lw_law_536 rfl ?_
    refine V_iconst (v := nI 3) d_Lw_law_537 (by decide +kernel) ?_
    refine V_iaddN d_Lw_law_538 ?_
    refine V_sld (j := i + 3) d_Lw_law_539 rfl (by omega) (by omega) ?_
    refine V_callV (As := [.int ((Γ.2.2.2.2.2 (i + 1))), .int ((Γ.2.2.2.2.2 (i + 2))), .int ((Γ.2.2.2.2.2 (i + 3)))]) (rest := []) (lo' := [some (.ref h), some (.int ((Γ.2.2.2.2.2 (i + 1)))), some (.int ((Γ.2.2.2.2.2 (i + 2)))), some (.int ((Γ.2.2.2.2.2 (i + 3))))]) (bc1 := 0) (bs1 := 0) (bc' := bc) (bs' := bs) d_Lw_law_540 k_Lw_law_75 dk.1 rfl rfl rfl rfl (by omega) (by omega) ?_
    refine c_HE_startF hx ?_
    · show pV Γ m_Lw_law 543 [some (.ref Γ.2.2.2.1), some (.ref h), some (.ref (h + 220)), some (.int (nI i))] [.int (nI 0)] _ G bc bs Q
      refine V_aload_n d_Lw_law_543 rfl ?_
      refine V_aload_n d_Lw_law_544 rfl ?_
      refine V_iload_n d_Lw_law_545 rfl ?_
      refine V_iconst (v := nI 1) d_Lw_law_546 (by decide +kernel) ?_
      refine V_iaddN d_Lw_law_547 ?_
      refine V_sld (j := i + 1) d_Lw_law_548 rfl (by omega) (by omega) ?_
      refine V_aload_n d_Lw_law_549 rfl ?_
      refine V_iload_n d_Lw_law_550 rfl ?_
      refine V_iconst (v := nI 2) d_Lw_law_551 (by decide +kernel) ?_
      refine V_iaddN d_Lw_law_552 ?_
      refine V_sld (j := i + 2) d_Lw_law_553 rfl (by omega) (by omega) ?_
      refine V_aload_n d_Lw_law_554 rfl ?_
      refine V_iload_n d_Lw_law_555 rfl ?_
      refine V_iconst (v := nI 3) d_Lw_law_556 (by decide +kernel) ?_
      refine V_iaddN d_Lw_law_557 ?_
      refine V_sld (j := i + 3) d_Lw_law_558 rfl (by omega) (by omega) ?_
      refine V_callV (As := [.int ((Γ.2.2.2.2.2 (i + 1))), .int ((Γ.2.2.2.2.2 (i + 2))), .int ((Γ.2.2.2.2.2 (i + 3)))]) (rest := [.int (nI 0)]) (lo' := [some (.ref (h + 220)), some (.int ((Γ.2.2.2.2.2 (i + 1)))), some (.int ((Γ.2.2.2.2.2 (i + 2)))), some (.int ((Γ.2.2.2.2.2 (i + 3))))]) (bc1 := 0) (bs1 := 0) (bc' := bc) (bs' := bs) d_Lw_law_559 k_Lw_law_78 mo.hd rfl rfl rfl rfl (by omega) (by omega) ?_
      refine c_Mo_startF hx ?_
      · show pV Γ m_Lw_law 562 [some (.ref Γ.2.2.2.1), some (.ref h), some (.ref (h + 220)), some (.int (nI i))] [.int (nI 0), .int (nI 0)] _ G bc bs Q
        refine V_icmp_eq (tgt := 702) d_Lw_law_562 (by decide) (fun _ => ?_) (fun e => absurd rfl e)
        exact next _ _ _ _ ⟨_, _, _, _, _, _, _, _, dk, mo.mono (by omega), iv⟩ (by omega) (by omega) (by omega)
set_option maxHeartbeats 1000000 in
theorem lw_case15 {Γ : pmE} {G : pmG} {n : Nat} {Q : pmPost} {h i N bc bs bR sR : Nat} (hL : Γ.2.2.2.2.1 ≤ 2560) (hi : i + 5 ≤ Γ.2.2.2.2.1) (hN : N < 2 ^ 31) (hbc : bR + 35 ≤ bc) (hbs : sR + 249 ≤ bs) (hn : h + 238 ≤ n) (hS : lwS G h n N) (next : ∀ n' G' bc' bs', lwS G' h n' (N + 3) → bR ≤ bc' → sR ≤ bs' → h + 238 ≤ n' → pV Γ m_Lw_law 702 [some (.ref Γ.2.2.2.1), some (.ref h), some (.ref (h + 220)), some (.int (nI i))] [] n' G' bc' bs' Q) : pV Γ m_Lw_law 567 [some (.ref Γ.2.2.2.1), some (.ref h), some (.ref (h + 220)), some (.int (nI i))] [] n G bc bs Q := by
  obtain ⟨f, D, ch, ld, trs, nb, bt, th, dk, mo, iv⟩ := hS
  rcases (show (¬ ∃ j, j < 3 ∧ (Γ.2.2.2.2.2 (i + 1)) = nI j) ∨ (Γ.2.2.2.2.2 (i + 2)) < 0 ∨ nI 101 ≤ (Γ.2.2.2.2.2 (i + 2)) ∨ ∃ j s, j < 3 ∧ s < 101 ∧ (Γ.2.2.2.2.2 (i + 1)) = nI j ∧ (Γ.2.2.2.2.2 (i + 2)) = nI s from by
    by_cases q : ∃ j, j < 3 ∧ (Γ.2.2.2.2.2 (i + 1)) = nI j
    · obtain ⟨j, hj, hx⟩ := q
      rcases pk_ix (Γ.2.2.2.2.2 (i + 2)) (n := 101) (by omega) with hy | hy | ⟨s, hs, hy⟩
      · exact Or.inr (Or.inl hy)
      · exact Or.inr (Or.inr (Or.inl hy))
      · exact Or.inr (Or.inr (Or.inr ⟨j, s, hj, hs, hx, hy⟩))
    · exact Or.inl q) with hx | hy | hy | ⟨j, s, hj, hs, hx, hy⟩
  · refine V_aload_n d_Lw_law_567 rfl ?_
    refine V_aload_n d_Lw_law_568 rfl ?_
    refine V_iload_n d_Lw_law_569 rfl ?_
    refine V_iconst (v := nI 1) d_Lw_law_570 (by decide +kernel) ?_
    refine V_iaddN d_Lw_law_571 ?_
    refine V_sld (j := i + 1) d_Lw_law_572 rfl (by omega) (by omega) ?_
    refine V_aload_n d_Lw_law_573 rfl ?_
    refine V_iload_n d_Lw_law_574 rfl ?_
    refine V_iconst (v := nI 2) d_Lw_law_575 (by decide +kernel) ?_
    refine V_iaddN d_Lw_law_576 ?_
    refine V_sld (j := i + 2) d_Lw_law_577 rfl (by omega) (by omega) ?_
    refine V_callV (As := [.int ((Γ.2.2.2.2.2 (i + 1))), .int ((Γ.2.2.2.2.2 (i + 2)))]) (rest := []) (lo' := [some (.ref h), some (.int ((Γ.2.2.2.2.2 (i + 1)))), some (.int ((Γ.2.2.2.2.2 (i + 2)))), none]) (bc1 := 0) (bs1 := 0) (bc' := bc) (bs' := bs) d_Lw_law_578 k_Lw_law_79 dk.1 rfl rfl rfl rfl (by omega) (by omega) ?_
    refine c_HE_stepF (Or.inl hx) ?_
    · show pV Γ m_Lw_law 581 [some (.ref Γ.2.2.2.1), some (.ref h), some (.ref (h + 220)), some (.int (nI i))] [.int ((-1))] _ G bc bs Q
      refine V_aload_n d_Lw_law_581 rfl ?_
      refine V_aload_n d_Lw_law_582 rfl ?_
      refine V_iload_n d_Lw_law_583 rfl ?_
      refine V_iconst (v := nI 1) d_Lw_law_584 (by decide +kernel) ?_
      refine V_iaddN d_Lw_law_585 ?_
      refine V_sld (j := i + 1) d_Lw_law_586 rfl (by omega) (by omega) ?_
      refine V_aload_n d_Lw_law_587 rfl ?_
      refine V_iload_n d_Lw_law_588 rfl ?_
      refine V_iconst (v := nI 2) d_Lw_law_589 (by decide +kernel) ?_
      refine V_iaddN d_Lw_law_590 ?_
      refine V_sld (j := i + 2) d_Lw_law_591 rfl (by omega) (by omega) ?_
      refine V_callV (As := [.int ((Γ.2.2.2.2.2 (i + 1))), .int ((Γ.2.2.2.2.2 (i + 2)))]) (rest := [.int ((-1))]) (lo' := [some (.ref (h + 220)), some (.int ((Γ.2.2.2.2.2 (i + 1)))), some (.int ((Γ.2.2.2.2.2 (i + 2)))), none]) (bc1 := 0) (bs1 := 0) (bc' := bc) (bs' := bs) d_Lw_law_592 k_Lw_law_83 mo.hd rfl rfl rfl rfl (by omega) (by omega) ?_
      refine c_Mo_stepF (Or.inl hx) ?_
      · show pV Γ m_Lw_law 595 [some (.ref Γ.2.2.2.1), some (.ref h), some (.ref (h + 220)), some (.int (nI i))] [.int ((-1)), .int ((-1))] _ G bc bs Q
        refine V_icmp_eq (tgt := 702) d_Lw_law_595 (by decide) (fun _ => ?_) (fun e => absurd rfl e)
        exact next _ _ _ _ ⟨_, _, _, _, _, _, _, _, dk, mo.mono (by omega), iv⟩ (by omega) (by omega) (by omega)
  · refine V_aload_n d_Lw_law_567 rfl ?_
    refine V_aload_n d_Lw_law_568 rfl ?_
    refine V_iload_n d_Lw_law_569 rfl ?_
    refine V_iconst (v := nI 1) d_Lw_law_570 (by decide +kernel) ?_
    refine V_iaddN d_Lw_law_571 ?_
    refine V_sld (j := i + 1) d_Lw_law_572 rfl (by omega) (by omega) ?_
    refine V_aload_n d_Lw_law_573 rfl ?_
    refine V_iload_n d_Lw_law_574 rfl ?_
    refine V_iconst (v := nI 2) d_Lw_law_575 (by decide +kernel) ?_
    refine V_iaddN d_Lw_law_576 ?_
    refine V_sld (j := i + 2) d_Lw_law_577 rfl (by omega) (by omega) ?_
    refine V_callV (As := [.int ((Γ.2.2.2.2.2 (i + 1))), .int ((Γ.2.2.2.2.2 (i + 2)))]) (rest := []) (lo' := [some (.ref h), some (.int ((Γ.2.2.2.2.2 (i + 1)))), some (.int ((Γ.2.2.2.2.2 (i + 2)))), none]) (bc1 := 0) (bs1 := 0) (bc' := bc) (bs' := bs) d_Lw_law_578 k_Lw_law_79 dk.1 rfl rfl rfl rfl (by omega) (by omega) ?_
    refine c_HE_stepF (Or.inr (Or.inl hy)) ?_
    · show pV Γ m_Lw_law 581 [some (.ref Γ.2.2.2.1), some (.ref h), some (.ref (h + 220)), some (.int (nI i))] [.int ((-1))] _ G bc bs Q
      refine V_aload_n d_Lw_law_581 rfl ?_
      refine V_aload_n d_Lw_law_582 rfl ?_
      refine V_iload_n d_Lw_law_583 rfl ?_
      refine V_iconst (v := nI 1) d_Lw_law_584 (by decide +kernel) ?_
      refine V_iaddN d_Lw_law_585 ?_
      refine V_sld (j := i + 1) d_Lw_law_586 rfl (by omega) (by omega) ?_
      refine V_aload_n d_Lw_law_587 rfl ?_
      refine V_iload_n d_Lw_law_588 rfl ?_
      refine V_iconst (v := nI 2) d_Lw_law_589 (by decide +kernel) ?_
      refine V_iaddN d_Lw_law_590 ?_
      refine V_sld (j := i + 2) d_Lw_law_591 rfl (by omega) (by omega) ?_
      refine V_callV (As := [.int ((Γ.2.2.2.2.2 (i + 1))), .int ((Γ.2.2.2.2.2 (i + 2)))]) (rest := [.int ((-1))]) (lo' := [some (.ref (h + 220)), some (.int ((Γ.2.2.2.2.2 (i + 1)))), some (.int ((Γ.2.2.2.2.2 (i + 2)))), none]) (bc1 := 0) (bs1 := 0) (bc' := bc) (bs' := bs) d_Lw_law_592 k_Lw_law_83 mo.hd rfl rfl rfl rfl (by omega) (by omega) ?_
      refine c_Mo_stepF (Or.inr (Or.inl hy)) ?_
      · show pV Γ m_Lw_law 595 [some (.ref Γ.2.2.2.1), some (.ref h), some (.ref (h + 220)), some (.int (nI i))] [.int ((-1)), .int ((-1))] _ G bc bs Q
        refine V_icmp_eq (tgt := 702) d_Lw_law_595 (by decide) (fun _ => ?_) (fun e => absurd rfl e)
        exact next _ _ _ _ ⟨_, _, _, _, _, _, _, _, dk, mo.mono (by omega), iv⟩ (by omega) (by omega) (by omega)
  · refine V_aload_n d_Lw_law_567 rfl ?_
    refine V_aload_n d_Lw_law_568 rfl ?_
    refine V_iload_n d_Lw_law_569 rfl ?_
    refine V_iconst (v := nI 1) d_Lw_law_570 (by decide +kernel) ?_
    refine V_iaddN d_Lw_law_571 ?_
    refine V_sld (j := i + 1) d_Lw_law_572 rfl (by omega) (by omega) ?_
    refine V_aload_n d_Lw_law_573 rfl ?_
    refine V_iload_n d_Lw_law_574 rfl ?_
    refine V_iconst (v := nI 2) d_Lw_law_575 (by decide +kernel) ?_
    refine V_iaddN d_Lw_law_576 ?_
    refine V_sld (j := i + 2) d_Lw_law_577 rfl (by omega) (by omega) ?_
    refine V_callV (As := [.int ((Γ.2.2.2.2.2 (i + 1))), .int ((Γ.2.2.2.2.2 (i + 2)))]) (rest := []) (lo' := [some (.ref h), some (.int ((Γ.2.2.2.2.2 (i + 1)))), some (.int ((Γ.2.2.2.2.2 (i + 2)))), none]) (bc1 := 0) (bs1 := 0) (bc' := bc) (bs' := bs) d_Lw_law_578 k_Lw_law_79 dk.1 rfl rfl rfl rfl (by omega) (by omega) ?_
    refine c_HE_stepF (Or.inr (Or.inr ((nI_lts (k := 100) (by omega)).mpr hy))) ?_
    · show pV Γ m_Lw_law 581 [some (.ref Γ.2.2.2.1), some (.ref h), some (.ref (h + 220)), some (.int (nI i))] [.int ((-1))] _ G bc bs Q
      refine V_aload_n d_Lw_law_581 rfl ?_
      refine V_aload_n d_Lw_law_582 rfl ?_
      refine V_iload_n d_Lw_law_583 rfl ?_
      refine V_iconst (v := nI 1) d_Lw_law_584 (by decide +kernel) ?_
      refine V_iaddN d_Lw_law_585 ?_
      refine V_sld (j := i + 1) d_Lw_law_586 rfl (by omega) (by omega) ?_
      refine V_aload_n d_Lw_law_587 rfl ?_
      refine V_iload_n d_Lw_law_588 rfl ?_
      refine V_iconst (v := nI 2) d_Lw_law_589 (by decide +kernel) ?_
      refine V_iaddN d_Lw_law_590 ?_
      refine V_sld (j := i + 2) d_Lw_law_591 rfl (by omega) (by omega) ?_
      refine V_callV (As := [.int ((Γ.2.2.2.2.2 (i + 1))), .int ((Γ.2.2.2.2.2 (i + 2)))]) (rest := [.int ((-1))]) (lo' := [some (.ref (h + 220)), some (.int ((Γ.2.2.2.2.2 (i + 1)))), some (.int ((Γ.2.2.2.2.2 (i + 2)))), none]) (bc1 := 0) (bs1 := 0) (bc' := bc) (bs' := bs) d_Lw_law_592 k_Lw_law_83 mo.hd rfl rfl rfl rfl (by omega) (by omega) ?_
      refine c_Mo_stepF (Or.inr (Or.inr ((nI_lts (k := 100) (by omega)).mpr hy))) ?_
      · show pV Γ m_Lw_law 595 [some (.ref Γ.2.2.2.1), some (.ref h), some (.ref (h + 220)), some (.int (nI i))] [.int ((-1)), .int ((-1))] _ G bc bs Q
        refine V_icmp_eq (tgt := 702) d_Lw_law_595 (by decide) (fun _ => ?_) (fun e => absurd rfl e)
        exact next _ _ _ _ ⟨_, _, _, _, _, _, _, _, dk, mo.mono (by omega), iv⟩ (by omega) (by omega) (by omega)
  · refine V_aload_n d_Lw_law_567 rfl ?_
    refine V_aload_n d_Lw_law_568 rfl ?_
    refine V_iload_n d_Lw_law_569 rfl ?_
    refine V_iconst (v := nI 1) d_Lw_law_570 (by decide +kernel) ?_
    refine V_iaddN d_Lw_law_571 ?_
    refine V_sld (j := i + 1) d_Lw_law_572 rfl (by omega) (by omega) ?_
    refine V_aload_n d_Lw_law_573 rfl ?_
    refine V_iload_n d_Lw_law_574 rfl ?_
    refine V_iconst (v := nI 2) d_Lw_law_575 (by decide +kernel) ?_
    refine V_iaddN d_Lw_law_576 ?_
    refine V_sld (j := i + 2) d_Lw_law_577 rfl (by omega) (by omega) ?_
    refine V_callV (As := [.int ((Γ.2.2.2.2.2 (i + 1))), .int ((Γ.2.2.2.2.2 (i + 2)))]) (rest := []) (lo' := [some (.ref h), some (.int ((Γ.2.2.2.2.2 (i + 1)))), some (.int ((Γ.2.2.2.2.2 (i + 2)))), none]) (bc1 := 0) (bs1 := 0) (bc' := bc) (bs' := bs) d_Lw_law_578 k_Lw_law_79 dk.1 rfl rfl rfl rfl (by omega) (by omega) ?_
    rw [hx, hy]
    refine c_HE_step dk hj (by omega) (fun G1 dk1 ho1 => ?_)
    · have mo := mo.kept (fun q q1 q2 => ho1 q (by omega))
      have dk := dk1
      show pV Γ m_Lw_law 581 [some (.ref Γ.2.2.2.1), some (.ref h), some (.ref (h + 220)), some (.int (nI i))] [.int (nI ((stp ld s (th j)).2))] _ G1 bc bs Q
      refine V_aload_n d_Lw_law_581 rfl ?_
      refine V_aload_n d_Lw_law_582 rfl ?_
      refine V_iload_n d_Lw_law_583 rfl ?_
      refine V_iconst (v := nI 1) d_Lw_law_584 (by decide +kernel) ?_
      refine V_iaddN d_Lw_law_585 ?_
      refine V_sld (j := i + 1) d_Lw_law_586 rfl (by omega) (by omega) ?_
      refine V_aload_n d_Lw_law_587 rfl ?_
      refine V_iload_n d_Lw_law_588 rfl ?_
      refine V_iconst (v := nI 2) d_Lw_law_589 (by decide +kernel) ?_
      refine V_iaddN d_Lw_law_590 ?_
      refine V_sld (j := i + 2) d_Lw_law_591 rfl (by omega) (by omega) ?_
      refine V_callV (As := [.int ((Γ.2.2.2.2.2 (i + 1))), .int ((Γ.2.2.2.2.2 (i + 2)))]) (rest := [.int (nI ((stp ld s (th j)).2))]) (lo' := [some (.ref (h + 220)), some (.int ((Γ.2.2.2.2.2 (i + 1)))), some (.int ((Γ.2.2.2.2.2 (i + 2)))), none]) (bc1 := 0) (bs1 := 0) (bc' := bc) (bs' := bs) d_Lw_law_592 k_Lw_law_83 mo.hd rfl rfl rfl rfl (by omega) (by omega) ?_
      rw [hx, hy]
      refine cm_step mo hj (by omega) iv.2.1 (iv.2.2 j hj) (fun G2 mo2 ho2 => ?_)
      · have dk := dk.kept (fun q hq => ho2 q (by omega))
        have mo := mo2
        show pV Γ m_Lw_law 595 [some (.ref Γ.2.2.2.1), some (.ref h), some (.ref (h + 220)), some (.int (nI i))] [.int (nI ((stp ld s (th j)).2)), .int (nI ((stp ld s (th j)).2))] _ G2 bc bs Q
        refine V_icmp_eq (tgt := 702) d_Lw_law_595 (by decide) (fun _ => ?_) (fun e => absurd rfl e)
        exact next _ _ _ _ ⟨_, _, _, _, _, _, _, _, dk, mo.mono (by omega), iv.th (okT.stp iv.2.1 s (th j) (iv.2.2 j hj))⟩ (by omega) (by omega) (by omega)
set_option maxHeartbeats 1000000 in
theorem lw_case16 {Γ : pmE} {G : pmG} {n : Nat} {Q : pmPost} {h i N bc bs bR sR : Nat} (hL : Γ.2.2.2.2.1 ≤ 2560) (hi : i + 5 ≤ Γ.2.2.2.2.1) (hN : N < 2 ^ 31) (hbc : bR + 35 ≤ bc) (hbs : sR + 249 ≤ bs) (hn : h + 238 ≤ n) (hS : lwS G h n N) (next : ∀ n' G' bc' bs', lwS G' h n' (N + 3) → bR ≤ bc' → sR ≤ bs' → h + 238 ≤ n' → pV Γ m_Lw_law 702 [some (.ref Γ.2.2.2.1), some (.ref h), some (.ref (h + 220)), some (.int (nI i))] [] n' G' bc' bs' Q) : pV Γ m_Lw_law 600 [some (.ref Γ.2.2.2.1), some (.ref h), some (.ref (h + 220)), some (.int (nI i))] [] n G bc bs Q := by
  obtain ⟨f, D, ch, ld, trs, nb, bt, th, dk, mo, iv⟩ := hS
  refine V_aload_n d_Lw_law_600 rfl ?_
  refine V_aload_n d_Lw_law_601 rfl ?_
  refine V_iload_n d_Lw_law_602 rfl ?_
  refine V_iconst (v := nI 1) d_Lw_law_603 (by decide +kernel) ?_
  refine V_iaddN d_Lw_law_604 ?_
  refine V_sld (j := i + 1) d_Lw_law_605 rfl (by omega) (by omega) ?_
  refine V_aload_n d_Lw_law_606 rfl ?_
  refine V_iload_n d_Lw_law_607 rfl ?_
  refine V_iconst (v := nI 2) d_Lw_law_608 (by decide +kernel) ?_
  refine V_iaddN d_Lw_law_609 ?_
  refine V_sld (j := i + 2) d_Lw_law_610 rfl (by omega) (by omega) ?_
  refine V_callV (As := [.int ((Γ.2.2.2.2.2 (i + 1))), .int ((Γ.2.2.2.2.2 (i + 2)))]) (rest := []) (lo' := [some (.ref h), some (.int ((Γ.2.2.2.2.2 (i + 1)))), some (.int ((Γ.2.2.2.2.2 (i + 2)))), none]) (bc1 := 0) (bs1 := 0) (bc' := bc) (bs' := bs) d_Lw_law_611 k_Lw_law_84 dk.1 rfl rfl rfl rfl (by omega) (by omega) ?_
  refine c_HE_frame dk (fun e => ?_) (fun t k ht hx hy hk => ?_)
  · show pV Γ m_Lw_law 614 [some (.ref Γ.2.2.2.1), some (.ref h), some (.ref (h + 220)), some (.int (nI i))] [.int ((-1))] _ G bc bs Q
    refine V_aload_n d_Lw_law_614 rfl ?_
    refine V_aload_n d_Lw_law_615 rfl ?_
    refine V_iload_n d_Lw_law_616 rfl ?_
    refine V_iconst (v := nI 1) d_Lw_law_617 (by decide +kernel) ?_
    refine V_iaddN d_Lw_law_618 ?_
    refine V_sld (j := i + 1) d_Lw_law_619 rfl (by omega) (by omega) ?_
    refine V_aload_n d_Lw_law_620 rfl ?_
    refine V_iload_n d_Lw_law_621 rfl ?_
    refine V_iconst (v := nI 2) d_Lw_law_622 (by decide +kernel) ?_
    refine V_iaddN d_Lw_law_623 ?_
    refine V_sld (j := i + 2) d_Lw_law_624 rfl (by omega) (by omega) ?_
    refine V_callV (As := [.int ((Γ.2.2.2.2.2 (i + 1))), .int ((Γ.2.2.2.2.2 (i + 2)))]) (rest := [.int ((-1))]) (lo' := [some (.ref (h + 220)), some (.int ((Γ.2.2.2.2.2 (i + 1)))), some (.int ((Γ.2.2.2.2.2 (i + 2)))), none]) (bc1 := 0) (bs1 := 0) (bc' := bc) (bs' := bs) d_Lw_law_625 k_Lw_law_87 mo.hd rfl rfl rfl rfl (by omega) (by omega) ?_
    refine cm_frame mo (fun e' => ?_) (fun t' k' ht' hx' hy' hk' => ?_)
    · show pV Γ m_Lw_law 628 [some (.ref Γ.2.2.2.1), some (.ref h), some (.ref (h + 220)), some (.int (nI i))] [.int ((-1)), .int ((-1))] _ G bc bs Q
      refine V_icmp_eq (tgt := 702) d_Lw_law_628 (by decide) (fun _ => ?_) (fun e => absurd rfl e)
      exact next _ _ _ _ ⟨_, _, _, _, _, _, _, _, dk, mo.mono (by omega), iv⟩ (by omega) (by omega) (by omega)
    · exact absurd ⟨t', k', ht', hx', hy', hk'⟩ e
  · show pV Γ m_Lw_law 614 [some (.ref Γ.2.2.2.1), some (.ref h), some (.ref (h + 220)), some (.int (nI i))] [.int ((nI 8 * ((th t).2.1 k).2.1 + ((th t).2.1 k).1))] _ G bc bs Q
    refine V_aload_n d_Lw_law_614 rfl ?_
    refine V_aload_n d_Lw_law_615 rfl ?_
    refine V_iload_n d_Lw_law_616 rfl ?_
    refine V_iconst (v := nI 1) d_Lw_law_617 (by decide +kernel) ?_
    refine V_iaddN d_Lw_law_618 ?_
    refine V_sld (j := i + 1) d_Lw_law_619 rfl (by omega) (by omega) ?_
    refine V_aload_n d_Lw_law_620 rfl ?_
    refine V_iload_n d_Lw_law_621 rfl ?_
    refine V_iconst (v := nI 2) d_Lw_law_622 (by decide +kernel) ?_
    refine V_iaddN d_Lw_law_623 ?_
    refine V_sld (j := i + 2) d_Lw_law_624 rfl (by omega) (by omega) ?_
    refine V_callV (As := [.int ((Γ.2.2.2.2.2 (i + 1))), .int ((Γ.2.2.2.2.2 (i + 2)))]) (rest := [.int ((nI 8 * ((th t).2.1 k).2.1 + ((th t).2.1 k).1))]) (lo' := [some (.ref (h + 220)), some (.int ((Γ.2.2.2.2.2 (i + 1)))), some (.int ((Γ.2.2.2.2.2 (i + 2)))), none]) (bc1 := 0) (bs1 := 0) (bc' := bc) (bs' := bs) d_Lw_law_625 k_Lw_law_87 mo.hd rfl rfl rfl rfl (by omega) (by omega) ?_
    refine cm_frame mo (fun e' => ?_) (fun t' k' ht' hx' hy' hk' => ?_)
    · exact absurd ⟨t, k, ht, hx, hy, hk⟩ e'
    · have et : t = t' := (nI_eq (by omega) (by omega)).mp (hx.symm.trans hx')
      subst et
      have h5 := (dk.2.2.2.2.2.2.1.2 t ht).1
      have ek : k = k' := (nI_eq (by omega) (by omega)).mp (hy.symm.trans hy')
      subst ek
      show pV Γ m_Lw_law 628 [some (.ref Γ.2.2.2.1), some (.ref h), some (.ref (h + 220)), some (.int (nI i))] [.int ((nI 8 * ((th t).2.1 k).2.1 + ((th t).2.1 k).1)), .int ((nI 8 * ((th t).2.1 k).2.1 + ((th t).2.1 k).1))] _ G bc bs Q
      refine V_icmp_eq (tgt := 702) d_Lw_law_628 (by decide) (fun _ => ?_) (fun e => absurd rfl e)
      exact next _ _ _ _ ⟨_, _, _, _, _, _, _, _, dk, mo.mono (by omega), iv⟩ (by omega) (by omega) (by omega)
set_option maxHeartbeats 1000000 in
theorem lw_case17 {Γ : pmE} {G : pmG} {n : Nat} {Q : pmPost} {h i N bc bs bR sR : Nat} (hL : Γ.2.2.2.2.1 ≤ 2560) (hi : i + 5 ≤ Γ.2.2.2.2.1) (hN : N < 2 ^ 31) (hbc : bR + 35 ≤ bc) (hbs : sR + 249 ≤ bs) (hn : h + 238 ≤ n) (hS : lwS G h n N) (next : ∀ n' G' bc' bs', lwS G' h n' (N + 3) → bR ≤ bc' → sR ≤ bs' → h + 238 ≤ n' → pV Γ m_Lw_law 702 [some (.ref Γ.2.2.2.1), some (.ref h), some (.ref (h + 220)), some (.int (nI i))] [] n' G' bc' bs' Q) : pV Γ m_Lw_law 633 [some (.ref Γ.2.2.2.1), some (.ref h), some (.ref (h + 220)), some (.int (nI i))] [] n G bc bs Q := by
  obtain ⟨f, D, ch, ld, trs, nb, bt, th, dk, mo, iv⟩ := hS
  refine V_aload_n d_Lw_law_633 rfl ?_
  refine V_aload_n d_Lw_law_634 rfl ?_
  refine V_iload_n d_Lw_law_635 rfl ?_
  refine V_iconst (v := nI 1) d_Lw_law_636 (by decide +kernel) ?_
  refine V_iaddN d_Lw_law_637 ?_
  refine V_sld (j := i + 1) d_Lw_law_638 rfl (by omega) (by omega) ?_
  refine V_callV (As := [.int ((Γ.2.2.2.2.2 (i + 1)))]) (rest := []) (lo' := [some (.ref h), some (.int ((Γ.2.2.2.2.2 (i + 1))))]) (bc1 := 0) (bs1 := 0) (bc' := bc) (bs' := bs) d_Lw_law_639 k_Lw_law_88 dk.1 rfl rfl rfl rfl (by omega) (by omega) ?_
  refine c_HE_result dk (fun e => ?_) (fun t ht hx => ?_)
  · show pV Γ m_Lw_law 642 [some (.ref Γ.2.2.2.1), some (.ref h), some (.ref (h + 220)), some (.int (nI i))] [.int (nI 0)] _ G bc bs Q
    refine V_aload_n d_Lw_law_642 rfl ?_
    refine V_aload_n d_Lw_law_643 rfl ?_
    refine V_iload_n d_Lw_law_644 rfl ?_
    refine V_iconst (v := nI 1) d_Lw_law_645 (by decide +kernel) ?_
    refine V_iaddN d_Lw_law_646 ?_
    refine V_sld (j := i + 1) d_Lw_law_647 rfl (by omega) (by omega) ?_
    refine V_callV (As := [.int ((Γ.2.2.2.2.2 (i + 1)))]) (rest := [.int (nI 0)]) (lo' := [some (.ref (h + 220)), some (.int ((Γ.2.2.2.2.2 (i + 1))))]) (bc1 := 0) (bs1 := 0) (bc' := bc) (bs' := bs) d_Lw_law_648 k_Lw_law_91 mo.hd rfl rfl rfl rfl (by omega) (by omega) ?_
    refine cm_result mo (fun e' => ?_) (fun t' ht' hx' => ?_)
    · show pV Γ m_Lw_law 651 [some (.ref Γ.2.2.2.1), some (.ref h), some (.ref (h + 220)), some (.int (nI i))] [.int (nI 0), .int (nI 0)] _ G bc bs Q
      refine V_icmp_eq (tgt := 702) d_Lw_law_651 (by decide) (fun _ => ?_) (fun e => absurd rfl e)
      exact next _ _ _ _ ⟨_, _, _, _, _, _, _, _, dk, mo.mono (by omega), iv⟩ (by omega) (by omega) (by omega)
    · exact absurd ⟨t', ht', hx'⟩ e
  · show pV Γ m_Lw_law 642 [some (.ref Γ.2.2.2.1), some (.ref h), some (.ref (h + 220)), some (.int (nI i))] [.int ((th t).2.2)] _ G bc bs Q
    refine V_aload_n d_Lw_law_642 rfl ?_
    refine V_aload_n d_Lw_law_643 rfl ?_
    refine V_iload_n d_Lw_law_644 rfl ?_
    refine V_iconst (v := nI 1) d_Lw_law_645 (by decide +kernel) ?_
    refine V_iaddN d_Lw_law_646 ?_
    refine V_sld (j := i + 1) d_Lw_law_647 rfl (by omega) (by omega) ?_
    refine V_callV (As := [.int ((Γ.2.2.2.2.2 (i + 1)))]) (rest := [.int ((th t).2.2)]) (lo' := [some (.ref (h + 220)), some (.int ((Γ.2.2.2.2.2 (i + 1))))]) (bc1 := 0) (bs1 := 0) (bc' := bc) (bs' := bs) d_Lw_law_648 k_Lw_law_91 mo.hd rfl rfl rfl rfl (by omega) (by omega) ?_
    refine cm_result mo (fun e' => ?_) (fun t' ht' hx' => ?_)
    · exact absurd ⟨t, ht, hx⟩ e'
    · have et : t = t' := (nI_eq (by omega) (by omega)).mp (hx.symm.trans hx')
      subst et
      show pV Γ m_Lw_law 651 [some (.ref Γ.2.2.2.1), some (.ref h), some (.ref (h + 220)), some (.int (nI i))] [.int ((th t).2.2), .int ((th t).2.2)] _ G bc bs Q
      refine V_icmp_eq (tgt := 702) d_Lw_law_651 (by decide) (fun _ => ?_) (fun e => absurd rfl e)
      exact next _ _ _ _ ⟨_, _, _, _, _, _, _, _, dk, mo.mono (by omega), iv⟩ (by omega) (by omega) (by omega)
set_option maxHeartbeats 1000000 in
theorem lw_case18 {Γ : pmE} {G : pmG} {n : Nat} {Q : pmPost} {h i N bc bs bR sR : Nat} (hL : Γ.2.2.2.2.1 ≤ 2560) (hi : i + 5 ≤ Γ.2.2.2.2.1) (hN : N < 2 ^ 31) (hbc : bR + 35 ≤ bc) (hbs : sR + 249 ≤ bs) (hn : h + 238 ≤ n) (hS : lwS G h n N) (next : ∀ n' G' bc' bs', lwS G' h n' (N + 3) → bR ≤ bc' → sR ≤ bs' → h + 238 ≤ n' → pV Γ m_Lw_law 702 [some (.ref Γ.2.2.2.1), some (.ref h), some (.ref (h + 220)), some (.int (nI i))] [] n' G' bc' bs' Q) : pV Γ m_Lw_law 656 [some (.ref Γ.2.2.2.1), some (.ref h), some (.ref (h + 220)), some (.int (nI i))] [] n G bc bs Q := by
  obtain ⟨f, D, ch, ld, trs, nb, bt, th, dk, mo, iv⟩ := hS
  refine V_aload_n d_Lw_law_656 rfl ?_
  refine V_aload_n d_Lw_law_657 rfl ?_
  refine V_iload_n d_Lw_law_658 rfl ?_
  refine V_iconst (v := nI 1) d_Lw_law_659 (by decide +kernel) ?_
  refine V_iaddN d_Lw_law_660 ?_
  refine V_sld (j := i + 1) d_Lw_law_661 rfl (by omega) (by omega) ?_
  refine V_callV (As := [.int ((Γ.2.2.2.2.2 (i + 1)))]) (rest := []) (lo' := [some (.ref h), some (.int ((Γ.2.2.2.2.2 (i + 1)))), none]) (bc1 := 0) (bs1 := 0) (bc' := bc) (bs' := bs) d_Lw_law_662 k_Lw_law_92 dk.1 rfl rfl rfl rfl (by omega) (by omega) ?_
  refine c_HE_edition dk (fun e => ?_) (fun c L hc hx hl => ?_)
  · show pV Γ m_Lw_law 665 [some (.ref Γ.2.2.2.1), some (.ref h), some (.ref (h + 220)), some (.int (nI i))] [.int (nI 0)] _ G bc bs Q
    refine V_aload_n d_Lw_law_665 rfl ?_
    refine V_aload_n d_Lw_law_666 rfl ?_
    refine V_iload_n d_Lw_law_667 rfl ?_
    refine V_iconst (v := nI 1) d_Lw_law_668 (by decide +kernel) ?_
    refine V_iaddN d_Lw_law_669 ?_
    refine V_sld (j := i + 1) d_Lw_law_670 rfl (by omega) (by omega) ?_
    refine V_callV (As := [.int ((Γ.2.2.2.2.2 (i + 1)))]) (rest := [.int (nI 0)]) (lo' := [some (.ref (h + 220)), some (.int ((Γ.2.2.2.2.2 (i + 1))))]) (bc1 := 0) (bs1 := 0) (bc' := bc) (bs' := bs) d_Lw_law_671 k_Lw_law_95 mo.hd rfl rfl rfl rfl (by omega) (by omega) ?_
    refine cm_edition mo (fun e' => ?_) (fun c' L' hc' hx' hl' => ?_)
    · show pV Γ m_Lw_law 674 [some (.ref Γ.2.2.2.1), some (.ref h), some (.ref (h + 220)), some (.int (nI i))] [.int (nI 0), .int (nI 0)] _ G bc bs Q
      refine V_icmp_eq (tgt := 702) d_Lw_law_674 (by decide) (fun _ => ?_) (fun e => absurd rfl e)
      exact next _ _ _ _ ⟨_, _, _, _, _, _, _, _, dk, mo.mono (by omega), iv⟩ (by omega) (by omega) (by omega)
    · exact absurd ⟨c', hc', hx', L', hl'⟩ e
  · show pV Γ m_Lw_law 665 [some (.ref Γ.2.2.2.1), some (.ref h), some (.ref (h + 220)), some (.int (nI i))] [.int (nI L.1)] _ G bc bs Q
    refine V_aload_n d_Lw_law_665 rfl ?_
    refine V_aload_n d_Lw_law_666 rfl ?_
    refine V_iload_n d_Lw_law_667 rfl ?_
    refine V_iconst (v := nI 1) d_Lw_law_668 (by decide +kernel) ?_
    refine V_iaddN d_Lw_law_669 ?_
    refine V_sld (j := i + 1) d_Lw_law_670 rfl (by omega) (by omega) ?_
    refine V_callV (As := [.int ((Γ.2.2.2.2.2 (i + 1)))]) (rest := [.int (nI L.1)]) (lo' := [some (.ref (h + 220)), some (.int ((Γ.2.2.2.2.2 (i + 1))))]) (bc1 := 0) (bs1 := 0) (bc' := bc) (bs' := bs) d_Lw_law_671 k_Lw_law_95 mo.hd rfl rfl rfl rfl (by omega) (by omega) ?_
    refine cm_edition mo (fun e' => ?_) (fun c' L' hc' hx' hl' => ?_)
    · exact absurd ⟨c, hc, hx, L, hl⟩ e'
    · have e := pLd_u hc hx hl hc' hx' hl'
      subst e
      show pV Γ m_Lw_law 674 [some (.ref Γ.2.2.2.1), some (.ref h), some (.ref (h + 220)), some (.int (nI i))] [.int (nI L.1), .int (nI L.1)] _ G bc bs Q
      refine V_icmp_eq (tgt := 702) d_Lw_law_674 (by decide) (fun _ => ?_) (fun e => absurd rfl e)
      exact next _ _ _ _ ⟨_, _, _, _, _, _, _, _, dk, mo.mono (by omega), iv⟩ (by omega) (by omega) (by omega)
set_option maxHeartbeats 1000000 in
theorem lw_case19 {Γ : pmE} {G : pmG} {n : Nat} {Q : pmPost} {h i N bc bs bR sR : Nat} (hL : Γ.2.2.2.2.1 ≤ 2560) (hi : i + 5 ≤ Γ.2.2.2.2.1) (hN : N < 2 ^ 31) (hbc : bR + 35 ≤ bc) (hbs : sR + 249 ≤ bs) (hn : h + 238 ≤ n) (hS : lwS G h n N) (next : ∀ n' G' bc' bs', lwS G' h n' (N + 3) → bR ≤ bc' → sR ≤ bs' → h + 238 ≤ n' → pV Γ m_Lw_law 702 [some (.ref Γ.2.2.2.1), some (.ref h), some (.ref (h + 220)), some (.int (nI i))] [] n' G' bc' bs' Q) : pV Γ m_Lw_law 679 [some (.ref Γ.2.2.2.1), some (.ref h), some (.ref (h + 220)), some (.int (nI i))] [] n G bc bs Q := by
  obtain ⟨f, D, ch, ld, trs, nb, bt, th, dk, mo, iv⟩ := hS
  refine V_aload_n d_Lw_law_679 rfl ?_
  refine V_aload_n d_Lw_law_680 rfl ?_
  refine V_iload_n d_Lw_law_681 rfl ?_
  refine V_iconst (v := nI 1) d_Lw_law_682 (by decide +kernel) ?_
  refine V_iaddN d_Lw_law_683 ?_
  refine V_sld (j := i + 1) d_Lw_law_684 rfl (by omega) (by omega) ?_
  refine V_callV (As := [.int ((Γ.2.2.2.2.2 (i + 1)))]) (rest := []) (lo' := [some (.ref h), some (.int ((Γ.2.2.2.2.2 (i + 1)))), none, none, none, none, none]) (bc1 := 0) (bs1 := 0) (bc' := bc) (bs' := bs) d_Lw_law_685 k_Lw_law_96 dk.1 rfl rfl rfl rfl (by omega) (by omega) ?_
  refine c_HE_kept dk (fun e => ?_) (fun c L hc hx hl => ?_)
  · show pV Γ m_Lw_law 688 [some (.ref Γ.2.2.2.1), some (.ref h), some (.ref (h + 220)), some (.int (nI i))] [.int (nI 0)] _ G bc bs Q
    refine V_aload_n d_Lw_law_688 rfl ?_
    refine V_aload_n d_Lw_law_689 rfl ?_
    refine V_iload_n d_Lw_law_690 rfl ?_
    refine V_iconst (v := nI 1) d_Lw_law_691 (by decide +kernel) ?_
    refine V_iaddN d_Lw_law_692 ?_
    refine V_sld (j := i + 1) d_Lw_law_693 rfl (by omega) (by omega) ?_
    refine V_callV (As := [.int ((Γ.2.2.2.2.2 (i + 1)))]) (rest := [.int (nI 0)]) (lo' := [some (.ref (h + 220)), some (.int ((Γ.2.2.2.2.2 (i + 1)))), none, none]) (bc1 := 0) (bs1 := 0) (bc' := bc) (bs' := bs) d_Lw_law_694 k_Lw_law_99 mo.hd rfl rfl rfl rfl (by omega) (by omega) ?_
    refine cm_kept mo hN (fun e' => ?_) (fun c' L' hc' hx' hl' => ?_)
    · show pV Γ m_Lw_law 697 [some (.ref Γ.2.2.2.1), some (.ref h), some (.ref (h + 220)), some (.int (nI i))] [.int (nI 0), .int (nI 0)] _ G bc bs Q
      refine V_icmp_eq (tgt := 702) d_Lw_law_697 (by decide) (fun _ => ?_) (fun e => absurd rfl e)
      exact next _ _ _ _ ⟨_, _, _, _, _, _, _, _, dk, mo.mono (by omega), iv⟩ (by omega) (by omega) (by omega)
    · exact absurd ⟨c', hc', hx', L', hl'⟩ e
  · show pV Γ m_Lw_law 688 [some (.ref Γ.2.2.2.1), some (.ref h), some (.ref (h + 220)), some (.int (nI i))] [.int (nI (1 + kCnt th (Γ.2.2.2.2.2 (i + 1)) L.1 15))] _ G bc bs Q
    refine V_aload_n d_Lw_law_688 rfl ?_
    refine V_aload_n d_Lw_law_689 rfl ?_
    refine V_iload_n d_Lw_law_690 rfl ?_
    refine V_iconst (v := nI 1) d_Lw_law_691 (by decide +kernel) ?_
    refine V_iaddN d_Lw_law_692 ?_
    refine V_sld (j := i + 1) d_Lw_law_693 rfl (by omega) (by omega) ?_
    refine V_callV (As := [.int ((Γ.2.2.2.2.2 (i + 1)))]) (rest := [.int (nI (1 + kCnt th (Γ.2.2.2.2.2 (i + 1)) L.1 15))]) (lo' := [some (.ref (h + 220)), some (.int ((Γ.2.2.2.2.2 (i + 1)))), none, none]) (bc1 := 0) (bs1 := 0) (bc' := bc) (bs' := bs) d_Lw_law_694 k_Lw_law_99 mo.hd rfl rfl rfl rfl (by omega) (by omega) ?_
    refine cm_kept mo hN (fun e' => ?_) (fun c' L' hc' hx' hl' => ?_)
    · exact absurd ⟨c, hc, hx, L, hl⟩ e'
    · have e := pLd_u hc hx hl hc' hx' hl'
      subst e
      show pV Γ m_Lw_law 697 [some (.ref Γ.2.2.2.1), some (.ref h), some (.ref (h + 220)), some (.int (nI i))] [.int (nI (1 + kCnt th (Γ.2.2.2.2.2 (i + 1)) L.1 15)), .int (nI (1 + kCnt th (Γ.2.2.2.2.2 (i + 1)) L.1 15))] _ G bc bs Q
      refine V_icmp_eq (tgt := 702) d_Lw_law_697 (by decide) (fun _ => ?_) (fun e => absurd rfl e)
      exact next _ _ _ _ ⟨_, _, _, _, _, _, _, _, dk, mo.mono (by omega), iv⟩ (by omega) (by omega) (by omega)
