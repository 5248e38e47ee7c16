/-! The desk: swap. -/
noncomputable def swR (ld : LdS) (trs : Nat → Trf) (x : Int32) (D : Dfn) : Nat := match ldx ld x with
  | some L => pRule ld (dTr trs D x) x L.2.1
  | none => 0
noncomputable def insLd (ld : LdS) (trs : Nat → Trf) (x : Int32) (D : Dfn) : LdS := match pCls x with
  | some c => (match ld c with
    | some L => va_up ld c (some (L.1 + 1, dTr trs D x, dOr trs D x))
    | none => ld)
  | none => ld
noncomputable def ldI (ld : LdS) (trs : Nat → Trf) (bt : Nat → Int32 × Dfn) : Nat → LdS
  | 0 => ld
  | k + 1 => insLd (ldI ld trs bt k) trs (bt k).1 (bt k).2
theorem insLd_some {ld : LdS} {trs : Nat → Trf} {x : Int32} {D : Dfn} {c : Nat} {L : Nat × Dfn × Dfn} (hc : c < 6) (hx : x = nI c) (hl : ld c = some L) : insLd ld trs x D = va_up ld c (some (L.1 + 1, dTr trs D x, dOr trs D x)) := by
  unfold insLd
  rw [hx, pCls_nI c hc]
  dsimp only
  rw [hl]
theorem insLd_none {ld : LdS} {trs : Nat → Trf} {x : Int32} {D : Dfn} (h : ¬ pLd ld x) : insLd ld trs x D = ld := by
  unfold insLd
  cases hc : pCls x with
  | none => rfl
  | some c =>
    obtain ⟨h1, h2⟩ := pCls_some hc
    dsimp only
    cases hl : ld c with
    | none => rfl
    | some L => exact absurd ⟨c, h1, h2, L, hl⟩ h
theorem swR_some {ld : LdS} {trs : Nat → Trf} {x : Int32} {D : Dfn} {c : Nat} {L : Nat × Dfn × Dfn} (hc : c < 6) (hx : x = nI c) (hl : ld c = some L) : swR ld trs x D = pRule ld (dTr trs D x) x L.2.1 := by
  unfold swR
  rw [ldx_some hc hx hl]
theorem swR_le (ld : LdS) (trs : Nat → Trf) (x : Int32) (D : Dfn) : swR ld trs x D ≤ 12 := by
  unfold swR
  split
  · exact pRule_le _ _ _ _
  · omega
def pTt (G : pmG) (h : Nat) (trs : Nat → Trf) (bt : Nat → Int32 × Dfn) (i : Nat) : Prop := ∀ j, j < i → isTr G (h + 64 + 35 * j) (bt j).1 (dTr trs (bt j).2 (bt j).1) (dOr trs (bt j).2 (bt j).1)
set_option maxHeartbeats 1000000 in
theorem c_HE_firstBrokenOfBatch {Γ : pmE} {G : pmG} {n : Nat} {Q : pmPost} {h lo : Nat} {f : Nat → Option Nat} {D : Dfn} {ch : Option Nat} {ld : LdS} {trs : Nat → Trf} {nb : Nat} {bt : Nat → Int32 × Dfn} {th : Nat → Thr} (dk : isDk G h lo n f D ch ld trs nb bt th) (hbl : ∀ i, i < nb → pLd ld (bt i).1) (hS : ∀ G', (∀ i, i < nb → swR ld trs (bt i).1 (bt i).2 = 0) → pTt G' h trs bt nb → (∀ j, j < 3 → ∃ t D O, isTr G' (h + 64 + 35 * j) t D O) → (∀ q, (q < h + 64 ∨ h + 169 ≤ q) → G' q = G q) → Q (some (.int (nI 0))) n G') (hB : ∀ G' i, i < nb → swR ld trs (bt i).1 (bt i).2 ≠ 0 → (∀ j, j < i → swR ld trs (bt j).1 (bt j).2 = 0) → (∀ j, j < 3 → ∃ t D O, isTr G' (h + 64 + 35 * j) t D O) → (∀ q, (q < h + 64 ∨ h + 169 ≤ q) → G' q = G q) → Q (some (.int (nI 16 * (bt i).1 + nI (swR ld trs (bt i).1 (bt i).2)))) n G') : pV Γ m_HE_firstBrokenOfBatch 0 [some (.ref h), none, none, none, none] [] n G 0 0 Q := by
  obtain ⟨k1, kd, ks, kc, kb, kg, kt, kx, ky, kl, kn⟩ := dk
  obtain ⟨b0, bb, b3, b4⟩ := kb
  have loop : ∀ (d i : Nat), i ≤ nb → nb - i < d → ∀ (w1 w2 w3 : Option Value) (G1 : pmG), pHd G1 h ch nb → isSh G1 (h + 18) f ld lo n → isCh G1 (h + 20) trs → (∃ f, G1 (h + 27) = some (.inl (kTr + 2, 3, .inr (.inr (.inr (.inr f))))) ∧ ∀ i, i < 3 → f i = some (h + 64 + 35 * i)) → (∀ j, j < 3 → ∃ t D O, isTr G1 (h + 64 + 35 * j) t D O) → pTt G1 h trs bt i → (∀ j, i ≤ j → j < nb → ∃ O, isTr G1 (h + 64 + 35 * j) (bt j).1 (bt j).2 O) → (∀ j, j < i → swR ld trs (bt j).1 (bt j).2 = 0) → (∀ q, (q < h + 64 ∨ h + 169 ≤ q) → G1 q = G q) → pV Γ m_HE_firstBrokenOfBatch 2 [some (.ref h), some (.int (nI i)), w1, w2, w3] [] n G1 0 0 Q := by
    intro d
    induction d with
    | zero => intro i _ hd; exact absurd hd (by omega)
    | succ d ih =>
      intro i hi hd w1 w2 w3 G1 k1 ks kc bb b3 b4 b5 hv ho
      obtain ⟨fb, b1, b2⟩ := bb
      have hsw := swR_le ld trs (bt i).1 (bt i).2
      refine V_iload_n d_HE_firstBrokenOfBatch_2 rfl ?_
      refine V_aload_n d_HE_firstBrokenOfBatch_3 rfl ?_
      refine V_getf d_HE_firstBrokenOfBatch_4 f_HE_40 k1 rfl ?_
      refine V_icmp_geN (tgt := 84) d_HE_firstBrokenOfBatch_7 (by decide) (by omega) (by omega) (fun hb7 => ?_) (fun hb7 => ?_)
      · refine V_iconst (v := nI 0) d_HE_firstBrokenOfBatch_84 (by decide +kernel) ?_
        exact V_ireturn d_HE_firstBrokenOfBatch_85 rfl (hS G1 (fun j hj => hv j (by omega)) (fun j hj => b4 j (by omega)) b3 ho)
      · refine V_aload_n d_HE_firstBrokenOfBatch_10 rfl ?_
        refine V_getf d_HE_firstBrokenOfBatch_11 f_HE_36 k1 rfl ?_
        refine V_iload_n d_HE_firstBrokenOfBatch_14 rfl ?_
        refine V_aaload (j := i) d_HE_firstBrokenOfBatch_15 rfl b1 rfl (by omega) (by omega) ?_
        rw [b2 i (by omega)]
        show pV Γ _ _ _ (.ref (h + 64 + 35 * i) :: _) _ _ _ _ _
        obtain ⟨O1, z⟩ := b5 i (by omega) (by omega)
        refine V_astore_n d_HE_firstBrokenOfBatch_16 (Nat.le_of_ble_eq_true rfl) ?_
        show pV Γ _ _ [some (.ref h), some (.int (nI i)), some (.ref (h + 64 + 35 * i)), w2, w3] _ _ _ _ _ _
        refine V_aload_n d_HE_firstBrokenOfBatch_17 rfl ?_
        refine V_getf d_HE_firstBrokenOfBatch_18 f_HE_23 k1 rfl ?_
        refine V_aload_n d_HE_firstBrokenOfBatch_21 rfl ?_
        refine V_getf d_HE_firstBrokenOfBatch_22 f_HE_194 z.1 rfl ?_
        refine V_callV (As := [.int ((bt i).1)]) (rest := []) (lo' := [some (.ref (h + 18)), some (.int ((bt i).1))]) (bc1 := 0) (bs1 := 0) (bc' := 0) (bs' := 0) d_HE_firstBrokenOfBatch_25 k_HE_firstBrokenOfBatch_58 ks.1 rfl rfl rfl rfl (by rfl) (by rfl) ?_
        refine c_Sh_find ks (fun hn => ?_) (fun c L b hc hx hl hf hlo hhi hL => ?_)
        · exact absurd (hbl i (by omega)) hn
        · show pV Γ m_HE_firstBrokenOfBatch 28 [some (.ref h), some (.int (nI i)), some (.ref (h + 64 + 35 * i)), w2, w3] [.ref b] _ G1 0 0 Q
          refine V_astore_n d_HE_firstBrokenOfBatch_28 (Nat.le_of_ble_eq_true rfl) ?_
          show pV Γ _ _ [some (.ref h), some (.int (nI i)), some (.ref (h + 64 + 35 * i)), some (.ref b), w3] _ _ _ _ _ _
          refine V_aload_n d_HE_firstBrokenOfBatch_29 rfl ?_
          refine V_ifnull d_HE_firstBrokenOfBatch_30 ?_
          refine V_aload_n d_HE_firstBrokenOfBatch_33 rfl ?_
          refine V_getf d_HE_firstBrokenOfBatch_34 f_HE_30 k1 rfl ?_
          refine V_aload_n d_HE_firstBrokenOfBatch_37 rfl ?_
          refine V_callV (As := [.ref (h + 64 + 35 * i)]) (rest := []) (lo' := [some (.ref (h + 20)), some (.ref (h + 64 + 35 * i))]) (bc1 := 0) (bs1 := 0) (bc' := 0) (bs' := 0) d_HE_firstBrokenOfBatch_38 k_HE_firstBrokenOfBatch_110 kc.1 rfl rfl rfl rfl (by rfl) (by rfl) ?_
          refine c_Ch_treat kc ky z (by omega) (fun G2 z' ho2 => ?_)
          have k1 := (ho2 _ (by omega)).trans k1
          have ks := ks.kept (fun q hq => ho2 q (by omega))
          have kc := kc.kept (fun q g1 g2 => ho2 q (by omega))
          have b1 := (ho2 _ (by omega)).trans b1
          have hL := hL.kept (fun q g1 g2 => ho2 q (by omega))
          have z := z'
          show pV Γ m_HE_firstBrokenOfBatch 41 [some (.ref h), some (.int (nI i)), some (.ref (h + 64 + 35 * i)), some (.ref b), w3] [] _ G2 0 0 Q
          refine V_aload_n d_HE_firstBrokenOfBatch_41 rfl ?_
          refine V_getf d_HE_firstBrokenOfBatch_42 f_HE_114 z.1 rfl ?_
          refine V_aload_n d_HE_firstBrokenOfBatch_45 rfl ?_
          refine V_getf d_HE_firstBrokenOfBatch_46 f_HE_194 z.1 rfl ?_
          refine V_aload_n d_HE_firstBrokenOfBatch_49 rfl ?_
          refine V_getf d_HE_firstBrokenOfBatch_50 f_HE_62 hL.1 rfl ?_
          refine V_aload_n d_HE_firstBrokenOfBatch_53 rfl ?_
          refine V_getf d_HE_firstBrokenOfBatch_54 f_HE_23 k1 rfl ?_
          refine V_callS (As := [.ref (h + 64 + 35 * i + 1), .int ((bt i).1), .ref (b + 1), .ref (h + 18)]) (rest := []) (lo' := [some (.ref (h + 64 + 35 * i + 1)), some (.int ((bt i).1)), some (.ref (b + 1)), some (.ref (h + 18)), none]) (bc1 := 0) (bs1 := 0) (bc' := 0) (bs' := 0) d_HE_firstBrokenOfBatch_57 k_HE_firstBrokenOfBatch_153 rfl rfl rfl rfl (by rfl) (by rfl) ?_
          refine c_Ru_firstBroken z.2.1 hL.2.1 ks ?_
          have e9 : pRule ld (dChgs trs (bt i).1 true (dChgs trs (bt i).1 false (bt i).2 5) 5) (bt i).1 L.2.1 = swR ld trs (bt i).1 (bt i).2 := (swR_some hc hx hl).symm
          rw [e9]
          show pV Γ m_HE_firstBrokenOfBatch 60 [some (.ref h), some (.int (nI i)), some (.ref (h + 64 + 35 * i)), some (.ref b), w3] [.int (nI (swR ld trs (bt i).1 (bt i).2))] _ G2 0 0 Q
          refine V_istore d_HE_firstBrokenOfBatch_60 (Nat.le_of_ble_eq_true rfl) ?_
          show pV Γ _ _ [some (.ref h), some (.int (nI i)), some (.ref (h + 64 + 35 * i)), some (.ref b), some (.int (nI (swR ld trs (bt i).1 (bt i).2)))] _ _ _ _ _ _
          refine V_iload d_HE_firstBrokenOfBatch_62 rfl ?_
          refine V_if_eqN (tgt := 78) d_HE_firstBrokenOfBatch_64 (by decide) (by omega) (fun hb64 => ?_) (fun hb64 => ?_)
          · refine V_iincN d_HE_firstBrokenOfBatch_78 rfl ?_
            show pV Γ _ _ [some (.ref h), some (.int (nI (i + 1))), some (.ref (h + 64 + 35 * i)), some (.ref b), some (.int (nI (swR ld trs (bt i).1 (bt i).2)))] _ _ _ _ _ _
            refine V_goto (tgt := 2) d_HE_firstBrokenOfBatch_81 (by decide) ?_
            refine ih (i + 1) (by omega) (by omega) _ _ _ G2 k1 ks kc ⟨fb, b1, b2⟩ (fun j hj => ?_) (fun j hj => ?_) (fun j hj1 hj2 => ?_) (fun j hj => ?_) (fun q hq => by rw [ho2 q (by omega), ho q hq])
            · by_cases e : j = i
              · rw [e]; exact ⟨_, _, _, z⟩
              · obtain ⟨t1, D1, O1, y⟩ := b3 j hj
                exact ⟨t1, D1, O1, y.kept fun q g1 g2 => ho2 q (by omega)⟩
            · by_cases e : j = i
              · rw [e]; exact z
              · exact (b4 j (by omega)).kept fun q g1 g2 => ho2 q (by omega)
            · obtain ⟨O1, y⟩ := b5 j (by omega) hj2
              exact ⟨O1, y.kept fun q g1 g2 => ho2 q (by omega)⟩
            · by_cases e : j = i
              · rw [e]; exact hb64
              · exact hv j (by omega)
          · refine V_bipush (v := nI 16) d_HE_firstBrokenOfBatch_67 (by decide +kernel) ?_
            refine V_aload_n d_HE_firstBrokenOfBatch_69 rfl ?_
            refine V_getf d_HE_firstBrokenOfBatch_70 f_HE_194 z.1 rfl ?_
            refine V_imul d_HE_firstBrokenOfBatch_73 ?_
            refine V_iload d_HE_firstBrokenOfBatch_74 rfl ?_
            refine V_iadd d_HE_firstBrokenOfBatch_76 ?_
            refine V_ireturn d_HE_firstBrokenOfBatch_77 rfl (hB G2 i (by omega) hb64 hv (fun j hj => ?_) (fun q hq => by rw [ho2 q (by omega), ho q hq]))
            by_cases e : j = i
            · rw [e]; exact ⟨_, _, _, z⟩
            · obtain ⟨t1, D1, O1, y⟩ := b3 j hj
              exact ⟨t1, D1, O1, y.kept fun q g1 g2 => ho2 q (by omega)⟩
  refine V_iconst (v := nI 0) d_HE_firstBrokenOfBatch_0 (by decide +kernel) ?_
  refine V_istore_n d_HE_firstBrokenOfBatch_1 (Nat.le_of_ble_eq_true rfl) ?_
  show pV Γ _ _ [some (.ref h), some (.int (nI 0)), none, none, none] _ _ _ _ _ _
  exact loop (nb + 1) 0 (by omega) (by omega) _ _ _ G k1 ks kc bb b3 (fun j hj => absurd hj (by omega)) (fun j _ hj => b4 j hj) (fun j hj => absurd hj (by omega)) (fun q _ => rfl)
set_option maxHeartbeats 1000000 in
theorem c_HE_installBatch {Γ : pmE} {G : pmG} {n : Nat} {Q : pmPost} {h lo nb : Nat} {f : Nat → Option Nat} {ch : Option Nat} {ld : LdS} {trs : Nat → Trf} {bt : Nat → Int32 × Dfn} (hn3 : nb ≤ 3) (kl : h + 220 ≤ lo) (k1 : pHd G h ch nb) (ks : isSh G (h + 18) f ld lo n) (bb : ∃ f, G (h + 27) = some (.inl (kTr + 2, 3, .inr (.inr (.inr (.inr f))))) ∧ ∀ i, i < 3 → f i = some (h + 64 + 35 * i)) (b4 : pTt G h trs bt nb) (hQ : ∀ G', isSh G' (h + 18) f (ldI ld trs bt nb) lo n → (∀ q, q < lo → G' q = G q) → Q none n G') : pV Γ m_HE_installBatch 0 [some (.ref h), none, none] [] n G 0 0 Q := by
  have loop : ∀ (d i : Nat), i ≤ nb → nb - i < d → ∀ (w1 : Option Value) (G1 : pmG), pHd G1 h ch nb → isSh G1 (h + 18) f (ldI ld trs bt i) lo n → (∃ f, G1 (h + 27) = some (.inl (kTr + 2, 3, .inr (.inr (.inr (.inr f))))) ∧ ∀ i, i < 3 → f i = some (h + 64 + 35 * i)) → pTt G1 h trs bt nb → (∀ q, q < lo → G1 q = G q) → pV Γ m_HE_installBatch 2 [some (.ref h), some (.int (nI i)), w1] [] n G1 0 0 Q := by
    intro d
    induction d with
    | zero => intro i _ hd; exact absurd hd (by omega)
    | succ d ih =>
      intro i hi hd w1 G1 k1 ks bb b4 ho
      obtain ⟨fb, b1, b2⟩ := bb
      refine V_iload_n d_HE_installBatch_2 rfl ?_
      refine V_aload_n d_HE_installBatch_3 rfl ?_
      refine V_getf d_HE_installBatch_4 f_HE_40 k1 rfl ?_
      refine V_icmp_geN (tgt := 66) d_HE_installBatch_7 (by decide) (by omega) (by omega) (fun hb7 => ?_) (fun hb7 => ?_)
      · exact V_return d_HE_installBatch_66 rfl (hQ G1 (by rw [show i = nb by omega] at ks; exact ks) ho)
      · refine V_aload_n d_HE_installBatch_10 rfl ?_
        refine V_getf d_HE_installBatch_11 f_HE_23 k1 rfl ?_
        refine V_aload_n d_HE_installBatch_14 rfl ?_
        refine V_getf d_HE_installBatch_15 f_HE_36 k1 rfl ?_
        refine V_iload_n d_HE_installBatch_18 rfl ?_
        refine V_aaload (j := i) d_HE_installBatch_19 rfl b1 rfl (by omega) (by omega) ?_
        rw [b2 i (by omega)]
        show pV Γ _ _ _ (.ref (h + 64 + 35 * i) :: _) _ _ _ _ _
        have z := b4 i (by omega)
        refine V_getf d_HE_installBatch_20 f_HE_194 z.1 rfl ?_
        refine V_callV (As := [.int ((bt i).1)]) (rest := []) (lo' := [some (.ref (h + 18)), some (.int ((bt i).1))]) (bc1 := 0) (bs1 := 0) (bc' := 0) (bs' := 0) d_HE_installBatch_23 k_HE_installBatch_58 ks.1 rfl rfl rfl rfl (by rfl) (by rfl) ?_
        refine c_Sh_find ks (fun hn => ?_) (fun c L b hc hx hl hf hlo hhi hL => ?_)
        · show pV Γ m_HE_installBatch 26 [some (.ref h), some (.int (nI i)), w1] [.null] _ G1 0 0 Q
          refine V_astore_nN d_HE_installBatch_26 (Nat.le_of_ble_eq_true rfl) ?_
          show pV Γ _ _ [some (.ref h), some (.int (nI i)), some (.null)] _ _ _ _ _ _
          refine V_aload_nN d_HE_installBatch_27 rfl ?_
          refine V_ifnullN (tgt := 60) d_HE_installBatch_28 (by decide) ?_
          refine V_iincN d_HE_installBatch_60 rfl ?_
          show pV Γ _ _ [some (.ref h), some (.int (nI (i + 1))), some (.null)] _ _ _ _ _ _
          refine V_goto (tgt := 2) d_HE_installBatch_63 (by decide) ?_
          exact ih (i + 1) (by omega) (by omega) _ G1 k1 (by unfold ldI; rw [insLd_none hn]; exact ks) ⟨fb, b1, b2⟩ b4 ho
        · show pV Γ m_HE_installBatch 26 [some (.ref h), some (.int (nI i)), w1] [.ref b] _ G1 0 0 Q
          refine V_astore_n d_HE_installBatch_26 (Nat.le_of_ble_eq_true rfl) ?_
          show pV Γ _ _ [some (.ref h), some (.int (nI i)), some (.ref b)] _ _ _ _ _ _
          refine V_aload_n d_HE_installBatch_27 rfl ?_
          refine V_ifnull d_HE_installBatch_28 ?_
          refine V_aload_n d_HE_installBatch_31 rfl ?_
          refine V_aload_n d_HE_installBatch_32 rfl ?_
          refine V_getf d_HE_installBatch_33 f_HE_36 k1 rfl ?_
          refine V_iload_n d_HE_installBatch_36 rfl ?_
          refine V_aaload (j := i) d_HE_installBatch_37 rfl b1 rfl (by omega) (by omega) ?_
          rw [b2 i (by omega)]
          show pV Γ _ _ _ (.ref (h + 64 + 35 * i) :: _) _ _ _ _ _
          refine V_getf d_HE_installBatch_38 f_HE_114 z.1 rfl ?_
          refine V_callV (As := [.ref (h + 64 + 35 * i + 1)]) (rest := []) (lo' := [some (.ref b), some (.ref (h + 64 + 35 * i + 1))]) (bc1 := 0) (bs1 := 0) (bc' := 0) (bs' := 0) d_HE_installBatch_41 k_HE_installBatch_157 hL.1 rfl rfl rfl rfl (by rfl) (by rfl) ?_
          refine c_Lc_addEdition hL z.2.1 (by omega) (fun G2 hL' ho2 => ?_)
          have k1 := (ho2 _ (by omega)).trans k1
          have b1 := (ho2 _ (by omega)).trans b1
          have z := z.kept (fun q g1 g2 => ho2 q (by omega))
          obtain ⟨l1, l2, l3⟩ := hL'
          show pV Γ m_HE_installBatch 44 [some (.ref h), some (.int (nI i)), some (.ref b)] [] _ G2 0 0 Q
          refine V_aload_n d_HE_installBatch_44 rfl ?_
          refine V_getf d_HE_installBatch_45 f_HE_146 l1 rfl ?_
          refine V_aload_n d_HE_installBatch_48 rfl ?_
          refine V_getf d_HE_installBatch_49 f_HE_36 k1 rfl ?_
          refine V_iload_n d_HE_installBatch_52 rfl ?_
          refine V_aaload (j := i) d_HE_installBatch_53 rfl b1 rfl (by omega) (by omega) ?_
          rw [b2 i (by omega)]
          show pV Γ _ _ _ (.ref (h + 64 + 35 * i) :: _) _ _ _ _ _
          refine V_getf d_HE_installBatch_54 f_HE_197 z.1 rfl ?_
          refine V_callV (As := [.ref (h + 64 + 35 * i + 18)]) (rest := []) (lo' := [some (.ref (b + 18)), some (.ref (h + 64 + 35 * i + 18)), none]) (bc1 := 0) (bs1 := 0) (bc' := 0) (bs' := 0) d_HE_installBatch_57 k_HE_installBatch_67 l3.2.1 rfl rfl rfl rfl (by rfl) (by rfl) ?_
          refine c_Df_become l3 z.2.2 (by omega) (fun G3 l3' ho3 => ?_)
          have k1 := (ho3 _ (by omega)).trans k1
          have b1 := (ho3 _ (by omega)).trans b1
          have z := z.kept (fun q g1 g2 => ho3 q (by omega))
          have l1 := (ho3 _ (by omega)).trans l1
          have l2 := l2.kept (fun q g1 g2 => ho3 q (by omega))
          have ks := ks.upd (by omega) hc hl hf (L' := (L.1 + 1, dTr trs (bt i).2 (bt i).1, dOr trs (bt i).2 (bt i).1)) ⟨l1, l2, l3'⟩ (fun q hq => by rw [ho3 q (by omega), ho2 q (by omega)])
          show pV Γ m_HE_installBatch 60 [some (.ref h), some (.int (nI i)), some (.ref b)] [] _ G3 0 0 Q
          refine V_iincN d_HE_installBatch_60 rfl ?_
          show pV Γ _ _ [some (.ref h), some (.int (nI (i + 1))), some (.ref b)] _ _ _ _ _ _
          refine V_goto (tgt := 2) d_HE_installBatch_63 (by decide) ?_
          exact ih (i + 1) (by omega) (by omega) _ G3 k1 (by unfold ldI; rw [insLd_some hc hx hl]; exact ks) ⟨fb, b1, b2⟩ (fun j hj => (b4 j hj).kept fun q g1 g2 => by rw [ho3 q (by omega), ho2 q (by omega)]) (fun q hq => by rw [ho3 q (by omega), ho2 q (by omega), ho q hq])
  refine V_iconst (v := nI 0) d_HE_installBatch_0 (by decide +kernel) ?_
  refine V_istore_n d_HE_installBatch_1 (Nat.le_of_ble_eq_true rfl) ?_
  show pV Γ _ _ [some (.ref h), some (.int (nI 0)), none] _ _ _ _ _ _
  exact loop (nb + 1) 0 (by omega) (by omega) _ G k1 ks bb b4 (fun q _ => rfl)
set_option maxHeartbeats 1000000 in
theorem c_HE_swap {Γ : pmE} {G : pmG} {n : Nat} {Q : pmPost} {h lo : Nat} {f : Nat → Option Nat} {D : Dfn} {ch : Option Nat} {ld : LdS} {trs : Nat → Trf} {nb : Nat} {bt : Nat → Int32 × Dfn} {th : Nat → Thr} (dk : isDk G h lo n f D ch ld trs nb bt th) (hbl : ∀ i, i < nb → pLd ld (bt i).1) (hS : (∀ i, i < nb → swR ld trs (bt i).1 (bt i).2 = 0) → ∀ G', isDk G' h lo n f D ch (ldI ld trs bt nb) trs 0 bt th → (∀ q, (q < h ∨ (h + 220 ≤ q ∧ q < lo)) → G' q = G q) → Q (some (.int (nI 0))) n G') (hB : ∀ i, i < nb → swR ld trs (bt i).1 (bt i).2 ≠ 0 → (∀ j, j < i → swR ld trs (bt j).1 (bt j).2 = 0) → ∀ G', isDk G' h lo n f D ch ld trs 0 bt th → (∀ q, (q < h ∨ (h + 220 ≤ q ∧ q < lo)) → G' q = G q) → Q (some (.int (nI 16 * (bt i).1 + nI (swR ld trs (bt i).1 (bt i).2)))) n G') : pV Γ m_HE_swap 0 [some (.ref h), none] [] n G 0 0 Q := by
  have dk0 := dk
  obtain ⟨k1, kd, ks, kc, kb, kg, kt, kx, ky, kl, kn⟩ := dk
  obtain ⟨b0, ⟨fb, b1, b2⟩, b3, b4⟩ := kb
  refine V_aload_n d_HE_swap_0 rfl ?_
  refine V_callV (As := []) (rest := []) (lo' := [some (.ref h), none, none, none, none]) (bc1 := 0) (bs1 := 0) (bc' := 0) (bs' := 0) d_HE_swap_1 k_HE_swap_139 k1 rfl rfl rfl rfl (by rfl) (by rfl) ?_
  refine c_HE_firstBrokenOfBatch dk0 hbl (fun G1 hv b4' b3' ho1 => ?_) (fun G1 i hi hr hv b3' ho1 => ?_)
  · have k1 := (ho1 h (by omega)).trans k1
    show pV Γ m_HE_swap 4 [some (.ref h), none] [.int (nI 0)] _ G1 0 0 Q
    refine V_istore_n d_HE_swap_4 (Nat.le_of_ble_eq_true rfl) ?_
    show pV Γ _ _ [some (.ref h), some (.int (nI 0))] _ _ _ _ _ _
    refine V_iload_n d_HE_swap_5 rfl ?_
    refine V_if_neN (tgt := 13) d_HE_swap_6 (by decide) (by omega) (fun h => absurd h (by omega)) (fun _ => ?_)
    refine V_aload_n d_HE_swap_9 rfl ?_
    refine V_callV (As := []) (rest := []) (lo' := [some (.ref h), none, none]) (bc1 := 0) (bs1 := 0) (bc' := 0) (bs' := 0) d_HE_swap_10 k_HE_swap_143 k1 rfl rfl rfl rfl (by rfl) (by rfl) ?_
    refine c_HE_installBatch b0 kl k1 (ks.kept fun q hq => ho1 q (by omega)) ⟨fb, (ho1 _ (by omega)).trans b1, b2⟩ b4' (fun G2 ks' ho2 => ?_)
    have k1 := (ho2 h (by omega)).trans k1
    show pV Γ m_HE_swap 13 [some (.ref h), some (.int (nI 0))] [] _ G2 0 0 Q
    refine V_aload_n d_HE_swap_13 rfl ?_
    refine V_iconst (v := nI 0) d_HE_swap_14 (by decide +kernel) ?_
    refine V_putf d_HE_swap_15 f_HE_40 p_HE_40 k1 rfl rfl rfl (fun G3 k1z ho3 => ?_)
    have k1 : G3 h = some (.inr (kHE, [.ref (h + 1), .int ((chI ch)), .ref (h + 18), .ref (h + 20), .ref (h + 27), .int (nI 0), .ref (h + 28), .ref (h + 63)])) := k1z
    refine V_iload_n d_HE_swap_18 rfl ?_
    have hE : ∀ q, (q ≠ h ∧ (q < h + 64 ∨ h + 169 ≤ q) ∧ q < lo) → G3 q = G q := fun q g => by rw [ho3 q (by omega), ho2 q (by omega), ho1 q (by omega)]
    refine V_ireturn d_HE_swap_19 rfl (hS hv G3 ⟨k1, kd.kept fun q g1 g2 => hE q (by omega), ks'.kept fun q hq => ho3 q (by omega), kc.kept fun q g1 g2 => hE q (by omega), ⟨Nat.zero_le _, ⟨fb, by rw [hE _ (by omega)]; exact b1, b2⟩, fun j hj => ?_, fun i hi => absurd hi (Nat.not_lt_zero i)⟩, kg.kept fun q g1 g2 => hE q (by omega), kt.kept fun q hq => hE q (by omega), kx, ky, kl, kn⟩ (fun q hq => hE q (by omega)))
    obtain ⟨t1, D1, O1, y⟩ := b3' j hj
    exact ⟨t1, D1, O1, y.kept fun q g1 g2 => by rw [ho3 q (by omega), ho2 q (by omega)]⟩
  · have k1 := (ho1 h (by omega)).trans k1
    obtain ⟨c, hc, hx, L, hl⟩ := hbl i hi
    have hsw := swR_le ld trs (bt i).1 (bt i).2
    have e9 : nI 16 * (bt i).1 + nI (swR ld trs (bt i).1 (bt i).2) = nI (16 * c + swR ld trs (bt i).1 (bt i).2) := by rw [hx, pk_mul, nI_add]
    rw [e9]
    show pV Γ m_HE_swap 4 [some (.ref h), none] [.int (nI (16 * c + swR ld trs (bt i).1 (bt i).2))] _ G1 0 0 Q
    refine V_istore_n d_HE_swap_4 (Nat.le_of_ble_eq_true rfl) ?_
    show pV Γ _ _ [some (.ref h), some (.int (nI (16 * c + swR ld trs (bt i).1 (bt i).2)))] _ _ _ _ _ _
    refine V_iload_n d_HE_swap_5 rfl ?_
    refine V_if_neN (tgt := 13) d_HE_swap_6 (by decide) (by omega) (fun hb6 => ?_) (fun hb6 => ?_)
    · refine V_aload_n d_HE_swap_13 rfl ?_
      refine V_iconst (v := nI 0) d_HE_swap_14 (by decide +kernel) ?_
      refine V_putf d_HE_swap_15 f_HE_40 p_HE_40 k1 rfl rfl rfl (fun G2 k1z ho2 => ?_)
      have k1 : G2 h = some (.inr (kHE, [.ref (h + 1), .int ((chI ch)), .ref (h + 18), .ref (h + 20), .ref (h + 27), .int (nI 0), .ref (h + 28), .ref (h + 63)])) := k1z
      refine V_iload_n d_HE_swap_18 rfl ?_
      have hE : ∀ q, (q ≠ h ∧ (q < h + 64 ∨ h + 169 ≤ q)) → G2 q = G q := fun q g => by rw [ho2 q (by omega), ho1 q (by omega)]
      refine V_ireturn d_HE_swap_19 rfl (by rw [← e9]; exact hB i hi hr hv G2 ⟨k1, kd.kept fun q g1 g2 => hE q (by omega), ks.kept fun q hq => hE q (by omega), kc.kept fun q g1 g2 => hE q (by omega), ⟨Nat.zero_le _, ⟨fb, by rw [hE _ (by omega)]; exact b1, b2⟩, (fun j hj => by obtain ⟨t1, D1, O1, y⟩ := b3' j hj; exact ⟨t1, D1, O1, y.kept fun q g1 g2 => ho2 q (by omega)⟩), fun i hi => absurd hi (Nat.not_lt_zero i)⟩, kg.kept fun q g1 g2 => hE q (by omega), kt.kept fun q hq => hE q (by omega), kx, ky, kl, kn⟩ (fun q hq => hE q (by omega)))
    · exact absurd hb6 (by omega)
