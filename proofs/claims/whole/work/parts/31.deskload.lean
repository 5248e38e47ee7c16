/-! The desk: load, transformer, remove, queue, repeat. -/
theorem isSh.upd {G G' : pmG} {a : Nat} {f : Nat → Option Nat} {ld : LdS} {lo hi c b : Nat} {L L' : Nat × Dfn × Dfn} (h : isSh G a f ld lo hi) (ha : a + 2 ≤ lo) (hc : c < 6) (hl : ld c = some L) (hf : f c = some b) (hb : isLd G' b L'.1 L'.2.1 L'.2.2) (hq : ∀ q, (q < b ∨ b + 35 ≤ q) → G' q = G q) : isSh G' a f (va_up ld c (some L')) lo hi := by
  obtain ⟨h1, h2, h3, h4, h5⟩ := h
  obtain ⟨b0, g1, g2, g3, g4⟩ := h4 c L hc hl
  rw [hf] at g1
  cases g1
  refine ⟨by rw [hq a (by omega)]; exact h1, by rw [hq _ (by omega)]; exact h2, fun c' hc' hl' => ?_, fun c' L1 hc' hl' => ?_, h5⟩
  · by_cases e : c' = c
    · rw [e, va_up_self] at hl'; cases hl'
    · rw [va_up_ne _ _ e] at hl'; exact h3 c' hc' hl'
  · by_cases e : c' = c
    · rw [e, va_up_self] at hl'
      cases hl'
      rw [e]
      exact ⟨b, hf, g2, g3, hb⟩
    · rw [va_up_ne _ _ e] at hl'
      obtain ⟨b1, k1, k2, k3, k4⟩ := h4 c' L1 hc' hl'
      have := h5 c c' b b1 hc hc' (Ne.symm e) hf k1
      exact ⟨b1, k1, k2, k3, k4.kept fun q q1 q2 => hq q (by omega)⟩
theorem pCls_none {x : Int32} (h : ¬ ∃ j, j < 6 ∧ x = nI j) : pCls x = none := by
  cases hc : pCls x with
  | none => rfl
  | some c => exact absurd ⟨c, pCls_some hc⟩ h
noncomputable def dOr (trs : Nat → Trf) (D : Dfn) (x : Int32) : Dfn := dChgs trs x false D 5
noncomputable def dTr (trs : Nat → Trf) (D : Dfn) (x : Int32) : Dfn := dChgs trs x true (dChgs trs x false D 5) 5
set_option maxHeartbeats 1000000 in
theorem c_HE_load {Γ : pmE} {G : pmG} {n : Nat} {Q : pmPost} {h lo : Nat} {f : Nat → Option Nat} {D : Dfn} {ch : Option Nat} {ld : LdS} {trs : Nat → Trf} {nb : Nat} {bt : Nat → Int32 × Dfn} {th : Nat → Thr} (dk : isDk G h lo n f D ch ld trs nb bt th) (hF : ∀ r, ((pAlone ld (dTr trs D (dP D 1)) ≠ 0 ∧ r = pAlone ld (dTr trs D (dP D 1))) ∨ (pAlone ld (dTr trs D (dP D 1)) = 0 ∧ pCls (dP D 1) = none ∧ r = 5) ∨ (pAlone ld (dTr trs D (dP D 1)) = 0 ∧ (∃ j L, pCls (dP D 1) = some j ∧ ld j = some L) ∧ r = 13)) → ∀ G', isDk G' h lo n f D ch ld trs nb bt th → (∀ q, (q < h ∨ (h + 220 ≤ q ∧ q < lo)) → G' q = G q) → Q (some (.int (nI r))) n G') (hS : ∀ j, pAlone ld (dTr trs D (dP D 1)) = 0 → pCls (dP D 1) = some j → ld j = none → ∀ G', isDk G' h lo (n + 35) (va_up f j (some n)) D ch (va_up ld j (some (1, dTr trs D (dP D 1), dOr trs D (dP D 1)))) trs nb bt th → (∀ q, (q < h ∨ (h + 220 ≤ q ∧ q < lo)) → G' q = G q) → Q (some (.int (nI 0))) (n + 35) G') : pV Γ m_HE_load 0 [some (.ref h), none, none] [] n G 35 249 Q := by
  obtain ⟨k1, kd, ks, kc, kb, kg, kt, kx, ky, kl, kn⟩ := dk
  obtain ⟨t0, D0, O0, kg⟩ := kg
  have hal := pAlone_le ld (dTr trs D (dP D 1))
  refine V_aload_n d_HE_load_0 rfl ?_
  refine V_getf d_HE_load_1 f_HE_10 k1 rfl ?_
  obtain ⟨f1, p2, p2'⟩ := kd.2.2.1
  refine V_getf d_HE_load_4 f_HE_71 kd.2.1 rfl ?_
  refine V_iconst (v := nI 1) d_HE_load_7 (by decide +kernel) ?_
  refine V_iaload (j := 1) d_HE_load_8 rfl p2 rfl (by omega) (by omega) ?_
  rw [p2' 1 (by omega)]
  refine V_istore_n d_HE_load_9 (Nat.le_of_ble_eq_true rfl) ?_
  show pV Γ _ _ [some (.ref h), some (.int ((dP D 1))), none] _ _ _ _ _ _
  refine V_aload_n d_HE_load_10 rfl ?_
  refine V_getf d_HE_load_11 f_HE_44 k1 rfl ?_
  refine V_aload_n d_HE_load_14 rfl ?_
  refine V_getf d_HE_load_15 f_HE_10 k1 rfl ?_
  refine V_iload_n d_HE_load_18 rfl ?_
  refine V_callV (As := [.ref (h + 1), .int ((dP D 1))]) (rest := []) (lo' := [some (.ref (h + 28)), some (.ref (h + 1)), some (.int ((dP D 1)))]) (bc1 := 0) (bs1 := 0) (bc' := 35) (bs' := 249) d_HE_load_19 k_HE_load_106 kg.1 rfl rfl rfl rfl (by rfl) (by rfl) ?_
  refine c_Tr_take kg kd (by omega) (fun G1 kg' ho1 => ?_)
  have k1 := (ho1 _ (by omega)).trans k1
  have kd := kd.kept (fun q g1 g2 => ho1 q (by omega))
  have ks := ks.kept (fun q hq => ho1 q (by omega))
  have kc := kc.kept (fun q g1 g2 => ho1 q (by omega))
  have kb := kb.kept (fun q hq => ho1 q (by omega))
  have kt := kt.kept (fun q hq => ho1 q (by omega))
  have kg := kg'
  show pV Γ m_HE_load 22 [some (.ref h), some (.int ((dP D 1))), none] [] _ G1 35 249 Q
  refine V_aload_n d_HE_load_22 rfl ?_
  refine V_getf d_HE_load_23 f_HE_30 k1 rfl ?_
  refine V_aload_n d_HE_load_26 rfl ?_
  refine V_getf d_HE_load_27 f_HE_44 k1 rfl ?_
  refine V_callV (As := [.ref (h + 28)]) (rest := []) (lo' := [some (.ref (h + 20)), some (.ref (h + 28))]) (bc1 := 0) (bs1 := 0) (bc' := 35) (bs' := 249) d_HE_load_30 k_HE_load_110 kc.1 rfl rfl rfl rfl (by rfl) (by rfl) ?_
  refine c_Ch_treat kc ky kg (by omega) (fun G2 kg' ho2 => ?_)
  have k1 := (ho2 _ (by omega)).trans k1
  have kd := kd.kept (fun q g1 g2 => ho2 q (by omega))
  have ks := ks.kept (fun q hq => ho2 q (by omega))
  have kc := kc.kept (fun q g1 g2 => ho2 q (by omega))
  have kb := kb.kept (fun q hq => ho2 q (by omega))
  have kt := kt.kept (fun q hq => ho2 q (by omega))
  have kg := kg'
  show pV Γ m_HE_load 33 [some (.ref h), some (.int ((dP D 1))), none] [] _ G2 35 249 Q
  refine V_aload_n d_HE_load_33 rfl ?_
  refine V_getf d_HE_load_34 f_HE_44 k1 rfl ?_
  refine V_getf d_HE_load_37 f_HE_114 kg.1 rfl ?_
  refine V_aload_n d_HE_load_40 rfl ?_
  refine V_getf d_HE_load_41 f_HE_23 k1 rfl ?_
  refine V_callS (As := [.ref (h + 28 + 1), .ref (h + 18)]) (rest := []) (lo' := [some (.ref (h + 28 + 1)), some (.ref (h + 18))]) (bc1 := 0) (bs1 := 0) (bc' := 35) (bs' := 249) d_HE_load_44 k_HE_load_117 rfl rfl rfl rfl (by rfl) (by rfl) ?_
  refine c_Ru_firstBrokenAlone kg.2.1 ks ?_
  show pV Γ m_HE_load 47 [some (.ref h), some (.int ((dP D 1))), none] [.int (nI (pAlone ld (dTr trs D (dP D 1))))] _ G2 35 249 Q
  refine V_istore_n d_HE_load_47 (Nat.le_of_ble_eq_true rfl) ?_
  show pV Γ _ _ [some (.ref h), some (.int ((dP D 1))), some (.int (nI (pAlone ld (dTr trs D (dP D 1)))))] _ _ _ _ _ _
  refine V_iload_n d_HE_load_48 rfl ?_
  refine V_if_eqN (tgt := 54) d_HE_load_49 (by decide) (by omega) (fun hb49 => ?_) (fun hb49 => ?_)
  · refine V_iload_n d_HE_load_54 rfl ?_
    refine V_callS (As := [.int ((dP D 1))]) (rest := []) (lo' := [some (.int ((dP D 1)))]) (bc1 := 0) (bs1 := 0) (bc' := 35) (bs' := 249) d_HE_load_55 k_HE_load_123 rfl rfl rfl rfl (by rfl) (by rfl) ?_
    refine c_HE_isClass ?_
    show pV Γ m_HE_load 58 [some (.ref h), some (.int ((dP D 1))), some (.int (nI (pAlone ld (dTr trs D (dP D 1)))))] [.int (pB (∃ j, j < 6 ∧ dP D 1 = nI j))] _ G2 35 249 Q
    refine V_if_neB (tgt := 63) d_HE_load_58 (by decide) (fun hb58 => ?_) (fun hb58 => ?_)
    · refine V_aload_n d_HE_load_63 rfl ?_
      refine V_getf d_HE_load_64 f_HE_23 k1 rfl ?_
      refine V_iload_n d_HE_load_67 rfl ?_
      refine V_callV (As := [.int ((dP D 1))]) (rest := []) (lo' := [some (.ref (h + 18)), some (.int ((dP D 1)))]) (bc1 := 0) (bs1 := 0) (bc' := 35) (bs' := 249) d_HE_load_68 k_HE_load_58 ks.1 rfl rfl rfl rfl (by rfl) (by rfl) ?_
      refine c_Sh_find ks (fun hn => ?_) (fun c L b hc hx hl hf hlo hhi hL => ?_)
      · show pV Γ m_HE_load 71 [some (.ref h), some (.int ((dP D 1))), some (.int (nI (pAlone ld (dTr trs D (dP D 1)))))] [.null] _ G2 35 249 Q
        refine V_ifnullN (tgt := 77) d_HE_load_71 (by decide) ?_
        refine V_aload_n d_HE_load_77 rfl ?_
        refine V_getf d_HE_load_78 f_HE_23 k1 rfl ?_
        refine V_iload_n d_HE_load_81 rfl ?_
        refine V_aload_n d_HE_load_82 rfl ?_
        refine V_getf d_HE_load_83 f_HE_44 k1 rfl ?_
        obtain ⟨j, hj, hx⟩ := hb58
        have hl : ld j = none := by
          cases hl : ld j with
          | none => rfl
          | some L => exact absurd ⟨j, hj, hx, L, hl⟩ hn
        rw [hx]
        refine V_callV (As := [.int (nI j), .ref (h + 28)]) (rest := []) (lo' := [some (.ref (h + 18)), some (.int (nI j)), some (.ref (h + 28)), none]) (bc1 := 35) (bs1 := 249) (bc' := 0) (bs' := 0) d_HE_load_86 k_HE_load_126 ks.1 rfl rfl rfl rfl (by rfl) (by rfl) ?_
        refine c_Sh_add ks hj kg kn (by omega) (by omega) (by omega) (fun G3 ks' ho3 => ?_)
        have k1 := (ho3 _ (by omega)).trans k1
        have kd := kd.kept (fun q g1 g2 => ho3 q (by omega))
        have kc := kc.kept (fun q g1 g2 => ho3 q (by omega))
        have kb := kb.kept (fun q hq => ho3 q (by omega))
        have kt := kt.kept (fun q hq => ho3 q (by omega))
        have kg := kg.kept (fun q g1 g2 => ho3 q (by omega))
        have ks := ks'
        show pV Γ m_HE_load 89 _ [] _ G3 0 0 Q
        refine V_iconst (v := nI 0) d_HE_load_89 (by decide +kernel) ?_
        exact V_ireturn d_HE_load_90 rfl (hS j hb49 (by rw [hx]; exact pCls_nI j hj) hl G3 ⟨k1, kd, ks, kc, kb, ⟨_, _, _, kg⟩, kt, kx, ky, kl, (by omega)⟩ (fun q hq => by rw [ho3 q (by omega), ho2 q (by omega), ho1 q (by omega)]))
      · show pV Γ m_HE_load 71 [some (.ref h), some (.int ((dP D 1))), some (.int (nI (pAlone ld (dTr trs D (dP D 1)))))] [.ref b] _ G2 35 249 Q
        refine V_ifnull d_HE_load_71 ?_
        refine V_bipush (v := nI 13) d_HE_load_74 (by decide +kernel) ?_
        exact V_ireturn d_HE_load_76 rfl (hF 13 (Or.inr (Or.inr ⟨hb49, ⟨c, L, by rw [hx]; exact pCls_nI c hc, hl⟩, rfl⟩)) G2 ⟨k1, kd, ks, kc, kb, ⟨_, _, _, kg⟩, kt, kx, ky, kl, kn⟩ (fun q hq => by rw [ho2 q (by omega), ho1 q (by omega)]))
    · refine V_iconst (v := nI 5) d_HE_load_61 (by decide +kernel) ?_
      exact V_ireturn d_HE_load_62 rfl (hF 5 (Or.inr (Or.inl ⟨hb49, pCls_none hb58, rfl⟩)) G2 ⟨k1, kd, ks, kc, kb, ⟨_, _, _, kg⟩, kt, kx, ky, kl, kn⟩ (fun q hq => by rw [ho2 q (by omega), ho1 q (by omega)]))
  · refine V_iload_n d_HE_load_52 rfl ?_
    exact V_ireturn d_HE_load_53 rfl (hF _ (Or.inl ⟨hb49, rfl⟩) G2 ⟨k1, kd, ks, kc, kb, ⟨_, _, _, kg⟩, kt, kx, ky, kl, kn⟩ (fun q hq => by rw [ho2 q (by omega), ho1 q (by omega)]))
noncomputable def onI (y : Int32) : Int32 := pI (∃ j, j < 6 ∧ y = nI j) y (-1)
set_option maxHeartbeats 1000000 in
theorem c_HE_transformer {Γ : pmE} {G : pmG} {n : Nat} {Q : pmPost} {h lo : Nat} {f : Nat → Option Nat} {D : Dfn} {ch : Option Nat} {ld : LdS} {trs : Nat → Trf} {nb : Nat} {bt : Nat → Int32 × Dfn} {th : Nat → Thr} (dk : isDk G h lo n f D ch ld trs nb bt th) {kd0 : Nat} {v y : Int32} {rp : Bool} (hk : kd0 ≤ 4) (hF : (∀ j, j < 5 → (trs j).1 = true) → Q (some (.int (-1))) n G) (hS : ∀ j, j < 5 → (trs j).1 = false → (∀ i, i < j → (trs i).1 = true) → ∀ G', isDk G' h lo n f D ch ld (va_up trs j (true, kd0, v, onI y, rp)) nb bt th → (∀ q, (q < h ∨ (h + 220 ≤ q ∧ q < lo)) → G' q = G q) → Q (some (.int (nI j))) n G') : pV Γ m_HE_transformer 0 [some (.ref h), some (.int (nI kd0)), some (.int v), some (.int y), some (.int (pB (rp = true)))] [] n G 0 0 Q := by
  obtain ⟨k1, kd, ks, kc, kb, kg, kt, kx, ky, kl, kn⟩ := dk
  refine V_aload_n d_HE_transformer_0 rfl ?_
  refine V_getf d_HE_transformer_1 f_HE_30 k1 rfl ?_
  refine V_iload_n d_HE_transformer_4 rfl ?_
  refine V_iload_n d_HE_transformer_5 rfl ?_
  refine V_iload_n d_HE_transformer_6 rfl ?_
  refine V_callS (As := [.int y]) (rest := [.int v, .int (nI kd0), .ref (h + 20)]) (lo' := [some (.int y)]) (bc1 := 0) (bs1 := 0) (bc' := 0) (bs' := 0) d_HE_transformer_7 k_HE_transformer_123 rfl rfl rfl rfl (by rfl) (by rfl) ?_
  refine c_HE_isClass ?_
  show pV Γ m_HE_transformer 10 [some (.ref h), some (.int (nI kd0)), some (.int v), some (.int y), some (.int (pB (rp = true)))] [.int (pB (∃ j, j < 6 ∧ y = nI j)), .int v, .int (nI kd0), .ref (h + 20)] _ G 0 0 Q
  refine V_if_eqB (tgt := 17) d_HE_transformer_10 (by decide) (fun hb10 => ?_) (fun hb10 => ?_)
  · refine V_iconst (v := (-1)) d_HE_transformer_17 (by decide +kernel) ?_
    refine V_iload d_HE_transformer_18 rfl ?_
    refine V_callV (As := [.int (nI kd0), .int v, .int ((-1)), .int (pB (rp = true))]) (rest := []) (lo' := [some (.ref (h + 20)), some (.int (nI kd0)), some (.int v), some (.int ((-1))), some (.int (pB (rp = true))), none, none]) (bc1 := 0) (bs1 := 0) (bc' := 0) (bs' := 0) d_HE_transformer_20 k_HE_transformer_129 kc.1 rfl rfl rfl rfl (by rfl) (by rfl) ?_
    refine c_Ch_put kc hk (fun hz => ?_) (fun j hj hz hy G1 kc' ho1 => ?_)
    · show pV Γ m_HE_transformer 23 [some (.ref h), some (.int (nI kd0)), some (.int v), some (.int y), some (.int (pB (rp = true)))] [.int ((-1))] _ G 0 0 Q
      exact V_ireturn d_HE_transformer_23 rfl (hF hz)
    · show pV Γ m_HE_transformer 23 [some (.ref h), some (.int (nI kd0)), some (.int v), some (.int y), some (.int (pB (rp = true)))] [.int (nI j)] _ G1 0 0 Q
      exact V_ireturn d_HE_transformer_23 rfl (hS j hj hz hy G1 ⟨(by unfold pHd; rw [ho1 h (by omega)]; exact k1), kd.kept fun q g1 g2 => ho1 q (by omega), ks.kept fun q hq => ho1 q (by omega), (by unfold onI; rw [pI_f hb10]; exact kc'), kb.kept fun q hq => ho1 q (by omega), kg.kept fun q g1 g2 => ho1 q (by omega), kt.kept fun q hq => ho1 q (by omega), kx, (fun k hk5 => by by_cases e : k = j; (· rw [e, va_up_self]; exact hk); (· rw [va_up_ne _ _ e]; exact ky k hk5)), kl, kn⟩ (fun q hq => by rw [ho1 q (by omega)]))
  · refine V_iload_n d_HE_transformer_13 rfl ?_
    refine V_goto (tgt := 18) d_HE_transformer_14 (by decide) ?_
    refine V_iload d_HE_transformer_18 rfl ?_
    refine V_callV (As := [.int (nI kd0), .int v, .int y, .int (pB (rp = true))]) (rest := []) (lo' := [some (.ref (h + 20)), some (.int (nI kd0)), some (.int v), some (.int y), some (.int (pB (rp = true))), none, none]) (bc1 := 0) (bs1 := 0) (bc' := 0) (bs' := 0) d_HE_transformer_20 k_HE_transformer_129 kc.1 rfl rfl rfl rfl (by rfl) (by rfl) ?_
    refine c_Ch_put kc hk (fun hz => ?_) (fun j hj hz hy G1 kc' ho1 => ?_)
    · show pV Γ m_HE_transformer 23 [some (.ref h), some (.int (nI kd0)), some (.int v), some (.int y), some (.int (pB (rp = true)))] [.int ((-1))] _ G 0 0 Q
      exact V_ireturn d_HE_transformer_23 rfl (hF hz)
    · show pV Γ m_HE_transformer 23 [some (.ref h), some (.int (nI kd0)), some (.int v), some (.int y), some (.int (pB (rp = true)))] [.int (nI j)] _ G1 0 0 Q
      exact V_ireturn d_HE_transformer_23 rfl (hS j hj hz hy G1 ⟨(by unfold pHd; rw [ho1 h (by omega)]; exact k1), kd.kept fun q g1 g2 => ho1 q (by omega), ks.kept fun q hq => ho1 q (by omega), (by unfold onI; rw [pI_t hb10]; exact kc'), kb.kept fun q hq => ho1 q (by omega), kg.kept fun q g1 g2 => ho1 q (by omega), kt.kept fun q hq => ho1 q (by omega), kx, (fun k hk5 => by by_cases e : k = j; (· rw [e, va_up_self]; exact hk); (· rw [va_up_ne _ _ e]; exact ky k hk5)), kl, kn⟩ (fun q hq => by rw [ho1 q (by omega)]))
set_option maxHeartbeats 1000000 in
theorem c_HE_transformerF {Γ : pmE} {G : pmG} {n : Nat} {Q : pmPost} {h lo : Nat} {f : Nat → Option Nat} {D : Dfn} {ch : Option Nat} {ld : LdS} {trs : Nat → Trf} {nb : Nat} {bt : Nat → Int32 × Dfn} {th : Nat → Thr} (dk : isDk G h lo n f D ch ld trs nb bt th) {x v y r : Int32} (hx : x < 0 ∨ nI 4 < x) (hF : Q (some (.int (-1))) n G) : pV Γ m_HE_transformer 0 [some (.ref h), some (.int x), some (.int v), some (.int y), some (.int r)] [] n G 0 0 Q := by
  obtain ⟨k1, kd, ks, kc, kb, kg, kt, kx, ky, kl, kn⟩ := dk
  refine V_aload_n d_HE_transformer_0 rfl ?_
  refine V_getf d_HE_transformer_1 f_HE_30 k1 rfl ?_
  refine V_iload_n d_HE_transformer_4 rfl ?_
  refine V_iload_n d_HE_transformer_5 rfl ?_
  refine V_iload_n d_HE_transformer_6 rfl ?_
  refine V_callS (As := [.int y]) (rest := [.int v, .int x, .ref (h + 20)]) (lo' := [some (.int y)]) (bc1 := 0) (bs1 := 0) (bc' := 0) (bs' := 0) d_HE_transformer_7 k_HE_transformer_123 rfl rfl rfl rfl (by rfl) (by rfl) ?_
  refine c_HE_isClass ?_
  show pV Γ m_HE_transformer 10 [some (.ref h), some (.int x), some (.int v), some (.int y), some (.int r)] [.int (pB (∃ j, j < 6 ∧ y = nI j)), .int v, .int x, .ref (h + 20)] _ G 0 0 Q
  refine V_if_eqB (tgt := 17) d_HE_transformer_10 (by decide) (fun hb10 => ?_) (fun hb10 => ?_)
  · refine V_iconst (v := (-1)) d_HE_transformer_17 (by decide +kernel) ?_
    refine V_iload d_HE_transformer_18 rfl ?_
    refine V_callV (As := [.int x, .int v, .int ((-1)), .int r]) (rest := []) (lo' := [some (.ref (h + 20)), some (.int x), some (.int v), some (.int ((-1))), some (.int r), none, none]) (bc1 := 0) (bs1 := 0) (bc' := 0) (bs' := 0) d_HE_transformer_20 k_HE_transformer_129 kc.1 rfl rfl rfl rfl (by rfl) (by rfl) ?_
    refine c_Ch_putF hx ?_
    show pV Γ m_HE_transformer 23 [some (.ref h), some (.int x), some (.int v), some (.int y), some (.int r)] [.int ((-1))] _ G 0 0 Q
    exact V_ireturn d_HE_transformer_23 rfl (hF)
  · refine V_iload_n d_HE_transformer_13 rfl ?_
    refine V_goto (tgt := 18) d_HE_transformer_14 (by decide) ?_
    refine V_iload d_HE_transformer_18 rfl ?_
    refine V_callV (As := [.int x, .int v, .int y, .int r]) (rest := []) (lo' := [some (.ref (h + 20)), some (.int x), some (.int v), some (.int y), some (.int r), none, none]) (bc1 := 0) (bs1 := 0) (bc' := 0) (bs' := 0) d_HE_transformer_20 k_HE_transformer_129 kc.1 rfl rfl rfl rfl (by rfl) (by rfl) ?_
    refine c_Ch_putF hx ?_
    show pV Γ m_HE_transformer 23 [some (.ref h), some (.int x), some (.int v), some (.int y), some (.int r)] [.int ((-1))] _ G 0 0 Q
    exact V_ireturn d_HE_transformer_23 rfl (hF)
set_option maxHeartbeats 1000000 in
theorem c_HE_remove {Γ : pmE} {G : pmG} {n : Nat} {Q : pmPost} {h lo : Nat} {f : Nat → Option Nat} {D : Dfn} {ch : Option Nat} {ld : LdS} {trs : Nat → Trf} {nb : Nat} {bt : Nat → Int32 × Dfn} {th : Nat → Thr} (dk : isDk G h lo n f D ch ld trs nb bt th) {i : Nat} (hi : i < 5) (hF : (trs i).1 = false → Q (some (.int (nI 0))) n G) (hS : (trs i).1 = true → ∀ G', isDk G' h lo n f D ch ld (va_up trs i (false, (trs i).2)) nb bt th → (∀ q, (q < h ∨ (h + 220 ≤ q ∧ q < lo)) → G' q = G q) → Q (some (.int (nI 1))) n G') : pV Γ m_HE_remove 0 [some (.ref h), some (.int (nI i))] [] n G 0 0 Q := by
  obtain ⟨k1, kd, ks, kc, kb, kg, kt, kx, ky, kl, kn⟩ := dk
  refine V_aload_n d_HE_remove_0 rfl ?_
  refine V_getf d_HE_remove_1 f_HE_30 k1 rfl ?_
  refine V_iload_n d_HE_remove_4 rfl ?_
  refine V_callV (As := [.int (nI i)]) (rest := []) (lo' := [some (.ref (h + 20)), some (.int (nI i))]) (bc1 := 0) (bs1 := 0) (bc' := 0) (bs' := 0) d_HE_remove_5 k_HE_remove_133 kc.1 rfl rfl rfl rfl (by rfl) (by rfl) ?_
  refine c_Ch_free kc hi (fun hz => ?_) (fun hz G1 kc' ho1 => ?_)
  · show pV Γ m_HE_remove 8 [some (.ref h), some (.int (nI i))] [.int (nI 0)] _ G 0 0 Q
    exact V_zreturn d_HE_remove_8 rfl (by first | exact pB_or _ | exact Or.inl rfl | exact Or.inr rfl) (hF hz)
  · show pV Γ m_HE_remove 8 [some (.ref h), some (.int (nI i))] [.int (nI 1)] _ G1 0 0 Q
    exact V_zreturn d_HE_remove_8 rfl (by first | exact pB_or _ | exact Or.inl rfl | exact Or.inr rfl) (hS hz G1 ⟨(by unfold pHd; rw [ho1 h (by omega)]; exact k1), kd.kept fun q g1 g2 => ho1 q (by omega), ks.kept fun q hq => ho1 q (by omega), kc', kb.kept fun q hq => ho1 q (by omega), kg.kept fun q g1 g2 => ho1 q (by omega), kt.kept fun q hq => ho1 q (by omega), kx, (fun k hk5 => by by_cases e : k = i; (· rw [e, va_up_self]; exact ky i hi); (· rw [va_up_ne _ _ e]; exact ky k hk5)), kl, kn⟩ (fun q hq => by rw [ho1 q (by omega)]))
set_option maxHeartbeats 1000000 in
theorem c_HE_removeF {Γ : pmE} {G : pmG} {n : Nat} {Q : pmPost} {h lo : Nat} {f : Nat → Option Nat} {D : Dfn} {ch : Option Nat} {ld : LdS} {trs : Nat → Trf} {nb : Nat} {bt : Nat → Int32 × Dfn} {th : Nat → Thr} (dk : isDk G h lo n f D ch ld trs nb bt th) {x : Int32} (hx : x < 0 ∨ nI 5 ≤ x) (hF : Q (some (.int (nI 0))) n G) : pV Γ m_HE_remove 0 [some (.ref h), some (.int x)] [] n G 0 0 Q := by
  obtain ⟨k1, kd, ks, kc, kb, kg, kt, kx, ky, kl, kn⟩ := dk
  refine V_aload_n d_HE_remove_0 rfl ?_
  refine V_getf d_HE_remove_1 f_HE_30 k1 rfl ?_
  refine V_iload_n d_HE_remove_4 rfl ?_
  refine V_callV (As := [.int x]) (rest := []) (lo' := [some (.ref (h + 20)), some (.int x)]) (bc1 := 0) (bs1 := 0) (bc' := 0) (bs' := 0) d_HE_remove_5 k_HE_remove_133 kc.1 rfl rfl rfl rfl (by rfl) (by rfl) ?_
  refine c_Ch_freeF hx ?_
  show pV Γ m_HE_remove 8 [some (.ref h), some (.int x)] [.int (nI 0)] _ G 0 0 Q
  exact V_zreturn d_HE_remove_8 rfl (by first | exact pB_or _ | exact Or.inl rfl | exact Or.inr rfl) (hF)
set_option maxHeartbeats 1000000 in
theorem c_HE_isInBatch {Γ : pmE} {G : pmG} {n : Nat} {Q : pmPost} {h nb : Nat} {ch : Option Nat} {bt : Nat → Int32 × Dfn} {x : Int32} (k1 : pHd G h ch nb) (kb : pBt G h nb bt) (hQ : Q (some (.int (pB (∃ i, i < nb ∧ (bt i).1 = x)))) n G) : pV Γ m_HE_isInBatch 0 [some (.ref h), some (.int x), none] [] n G 0 0 Q := by
  obtain ⟨b0, ⟨fb, b1, b2⟩, b3, b4⟩ := kb
  have loop : ∀ (d i : Nat), i ≤ nb → nb - i < d → (∀ k, k < i → (bt k).1 ≠ x) → pV Γ m_HE_isInBatch 2 [some (.ref h), some (.int x), some (.int (nI i))] [] n G 0 0 Q := by
    intro d
    induction d with
    | zero => intro i _ hd; exact absurd hd (by omega)
    | succ d ih =>
      intro i hi hd hv
      refine V_iload_n d_HE_isInBatch_2 rfl ?_
      refine V_aload_n d_HE_isInBatch_3 rfl ?_
      refine V_getf d_HE_isInBatch_4 f_HE_40 k1 rfl ?_
      refine V_icmp_geN (tgt := 31) d_HE_isInBatch_7 (by decide) (by omega) (by omega) (fun hb7 => ?_) (fun hb7 => ?_)
      · refine V_iconst (v := nI 0) d_HE_isInBatch_31 (by decide +kernel) ?_
        exact V_zreturn d_HE_isInBatch_32 rfl (by first | exact pB_or _ | exact Or.inl rfl | exact Or.inr rfl) (pQ_f hQ (fun ⟨k, hk, e⟩ => hv k (by omega) e))
      · refine V_aload_n d_HE_isInBatch_10 rfl ?_
        refine V_getf d_HE_isInBatch_11 f_HE_36 k1 rfl ?_
        refine V_iload_n d_HE_isInBatch_14 rfl ?_
        refine V_aaload (j := i) d_HE_isInBatch_15 rfl b1 rfl (by omega) (by omega) ?_
        rw [b2 i (by omega)]
        show pV Γ _ _ _ (.ref (h + 64 + 35 * i) :: _) _ _ _ _ _
        obtain ⟨O1, z1, z2, z3⟩ := b4 i (by omega)
        refine V_getf d_HE_isInBatch_16 f_HE_194 z1 rfl ?_
        refine V_iload_n d_HE_isInBatch_19 rfl ?_
        refine V_icmp_ne (tgt := 25) d_HE_isInBatch_20 (by decide) (fun hb20 => ?_) (fun hb20 => ?_)
        · refine V_iincN d_HE_isInBatch_25 rfl ?_
          show pV Γ _ _ [some (.ref h), some (.int x), some (.int (nI (i + 1)))] _ _ _ _ _ _
          refine V_goto (tgt := 2) d_HE_isInBatch_28 (by decide) ?_
          exact ih (i + 1) (by omega) (by omega) (fun k hk => by
            rcases Nat.lt_or_ge k i with q | q
            · exact hv k q
            · rw [show k = i by omega]; exact hb20)
        · refine V_iconst (v := nI 1) d_HE_isInBatch_23 (by decide +kernel) ?_
          exact V_zreturn d_HE_isInBatch_24 rfl (by first | exact pB_or _ | exact Or.inl rfl | exact Or.inr rfl) (pQ_t hQ ⟨i, by omega, hb20⟩)
  refine V_iconst (v := nI 0) d_HE_isInBatch_0 (by decide +kernel) ?_
  refine V_istore_n d_HE_isInBatch_1 (Nat.le_of_ble_eq_true rfl) ?_
  show pV Γ _ _ [some (.ref h), some (.int x), some (.int (nI 0))] _ _ _ _ _ _
  exact loop (nb + 1) 0 (by omega) (by omega) (fun k hk => absurd hk (by omega))
set_option maxHeartbeats 1000000 in
theorem c_HE_queue {Γ : pmE} {G : pmG} {n : Nat} {Q : pmPost} {h lo : Nat} {f : Nat → Option Nat} {D : Dfn} {ch : Option Nat} {ld : LdS} {trs : Nat → Trf} {nb : Nat} {bt : Nat → Int32 × Dfn} {th : Nat → Thr} (dk : isDk G h lo n f D ch ld trs nb bt th) {x : Int32} (hF : (¬ pLd ld x ∨ nb = 3 ∨ ∃ i, i < nb ∧ (bt i).1 = x) → Q (some (.int (nI 0))) n G) (hS : pLd ld x → nb < 3 → (∀ i, i < nb → (bt i).1 ≠ x) → ∀ G', isDk G' h lo n f D ch ld trs (nb + 1) (va_up bt nb (x, D)) th → (∀ q, (q < h ∨ (h + 220 ≤ q ∧ q < lo)) → G' q = G q) → Q (some (.int (nI 1))) n G') : pV Γ m_HE_queue 0 [some (.ref h), some (.int x)] [] n G 0 0 Q := by
  obtain ⟨k1, kd, ks, kc, kb, kg, kt, kx, ky, kl, kn⟩ := dk
  have kb0 := kb
  obtain ⟨b0, ⟨fb, b1, b2⟩, b3, b4⟩ := kb
  have kb := kb0
  refine V_aload_n d_HE_queue_0 rfl ?_
  refine V_getf d_HE_queue_1 f_HE_23 k1 rfl ?_
  refine V_iload_n d_HE_queue_4 rfl ?_
  refine V_callV (As := [.int x]) (rest := []) (lo' := [some (.ref (h + 18)), some (.int x)]) (bc1 := 0) (bs1 := 0) (bc' := 0) (bs' := 0) d_HE_queue_5 k_HE_queue_58 ks.1 rfl rfl rfl rfl (by rfl) (by rfl) ?_
  refine c_Sh_find ks (fun hn => ?_) (fun c L b hc hx hl hf hlo hhi hL => ?_)
  · show pV Γ m_HE_queue 8 [some (.ref h), some (.int x)] [.null] _ G 0 0 Q
    refine V_ifnullN (tgt := 27) d_HE_queue_8 (by decide) ?_
    refine V_iconst (v := nI 0) d_HE_queue_27 (by decide +kernel) ?_
    exact V_zreturn d_HE_queue_28 rfl (by first | exact pB_or _ | exact Or.inl rfl | exact Or.inr rfl) (hF (by first | exact Or.inl hn | exact Or.inr (Or.inl (by omega)) | exact Or.inr (Or.inr hb24)))
  · show pV Γ m_HE_queue 8 [some (.ref h), some (.int x)] [.ref b] _ G 0 0 Q
    refine V_ifnull d_HE_queue_8 ?_
    refine V_aload_n d_HE_queue_11 rfl ?_
    refine V_getf d_HE_queue_12 f_HE_40 k1 rfl ?_
    refine V_iconst (v := nI 3) d_HE_queue_15 (by decide +kernel) ?_
    refine V_icmp_geN (tgt := 27) d_HE_queue_16 (by decide) (by omega) (by omega) (fun hb16 => ?_) (fun hb16 => ?_)
    · refine V_iconst (v := nI 0) d_HE_queue_27 (by decide +kernel) ?_
      exact V_zreturn d_HE_queue_28 rfl (by first | exact pB_or _ | exact Or.inl rfl | exact Or.inr rfl) (hF (by first | exact Or.inl hn | exact Or.inr (Or.inl (by omega)) | exact Or.inr (Or.inr hb24)))
    · refine V_aload_n d_HE_queue_19 rfl ?_
      refine V_iload_n d_HE_queue_20 rfl ?_
      refine V_callV (As := [.int x]) (rest := []) (lo' := [some (.ref h), some (.int x), none]) (bc1 := 0) (bs1 := 0) (bc' := 0) (bs' := 0) d_HE_queue_21 k_HE_queue_136 k1 rfl rfl rfl rfl (by rfl) (by rfl) ?_
      refine c_HE_isInBatch k1 kb ?_
      show pV Γ m_HE_queue 24 [some (.ref h), some (.int x)] [.int (pB (∃ i, i < nb ∧ (bt i).1 = x))] _ G 0 0 Q
      refine V_if_eqB (tgt := 29) d_HE_queue_24 (by decide) (fun hb24 => ?_) (fun hb24 => ?_)
      · refine V_aload_n d_HE_queue_29 rfl ?_
        refine V_getf d_HE_queue_30 f_HE_36 k1 rfl ?_
        refine V_aload_n d_HE_queue_33 rfl ?_
        refine V_getf d_HE_queue_34 f_HE_40 k1 rfl ?_
        refine V_aaload (j := nb) d_HE_queue_37 rfl b1 rfl (by omega) (by omega) ?_
        rw [b2 nb (by omega)]
        show pV Γ _ _ _ (.ref (h + 64 + 35 * nb) :: _) _ _ _ _ _
        refine V_aload_n d_HE_queue_38 rfl ?_
        refine V_getf d_HE_queue_39 f_HE_10 k1 rfl ?_
        refine V_iload_n d_HE_queue_42 rfl ?_
        obtain ⟨t0, D0, O0, z⟩ := b3 nb (by omega)
        refine V_callV (As := [.ref (h + 1), .int x]) (rest := []) (lo' := [some (.ref (h + 64 + 35 * nb)), some (.ref (h + 1)), some (.int x)]) (bc1 := 0) (bs1 := 0) (bc' := 0) (bs' := 0) d_HE_queue_43 k_HE_queue_106 z.1 rfl rfl rfl rfl (by rfl) (by rfl) ?_
        refine c_Tr_take z kd (by omega) (fun G1 z' ho1 => ?_)
        have k1 := (ho1 _ (by omega)).trans k1
        have kd := kd.kept (fun q g1 g2 => ho1 q (by omega))
        have ks := ks.kept (fun q hq => ho1 q (by omega))
        have kc := kc.kept (fun q g1 g2 => ho1 q (by omega))
        have kg := kg.kept (fun q g1 g2 => ho1 q (by omega))
        have kt := kt.kept (fun q hq => ho1 q (by omega))
        have b1 := (ho1 _ (by omega)).trans b1
        show pV Γ m_HE_queue 46 [some (.ref h), some (.int x)] [] _ G1 0 0 Q
        refine V_aload_n d_HE_queue_46 rfl ?_
        refine V_dup d_HE_queue_47 rfl ?_
        refine V_getf d_HE_queue_48 f_HE_40 k1 rfl ?_
        refine V_iconst (v := nI 1) d_HE_queue_51 (by decide +kernel) ?_
        refine V_iaddN d_HE_queue_52 ?_
        refine V_putf d_HE_queue_53 f_HE_40 p_HE_40 k1 rfl rfl rfl (fun G2 k1z ho2 => ?_)
        have k1 : G2 h = some (.inr (kHE, [.ref (h + 1), .int ((chI ch)), .ref (h + 18), .ref (h + 20), .ref (h + 27), .int (nI (nb + 1)), .ref (h + 28), .ref (h + 63)])) := k1z
        have kd := kd.kept (fun q g1 g2 => ho2 q (by omega))
        have ks := ks.kept (fun q hq => ho2 q (by omega))
        have kc := kc.kept (fun q g1 g2 => ho2 q (by omega))
        have kg := kg.kept (fun q g1 g2 => ho2 q (by omega))
        have kt := kt.kept (fun q hq => ho2 q (by omega))
        have b1 := (ho2 _ (by omega)).trans b1
        refine V_iconst (v := nI 1) d_HE_queue_56 (by decide +kernel) ?_
        refine V_zreturn d_HE_queue_57 rfl (by first | exact pB_or _ | exact Or.inl rfl | exact Or.inr rfl) (hS ⟨c, hc, hx, L, hl⟩ (by omega) (fun i hi e => hb24 ⟨i, hi, e⟩) G2 ⟨k1, kd, ks, kc, ⟨by omega, ⟨fb, b1, b2⟩, fun i hi => ?_, fun i hi => ?_⟩, kg, kt, kx, ky, kl, kn⟩ (fun q hq => by rw [ho2 q (by omega), ho1 q (by omega)]))
        · by_cases e : i = nb
          · rw [e]; exact ⟨_, _, _, z'.kept fun q g1 g2 => ho2 q (by omega)⟩
          · obtain ⟨t1, D1, O1, y⟩ := b3 i hi
            exact ⟨t1, D1, O1, y.kept fun q g1 g2 => by rw [ho2 q (by omega), ho1 q (by omega)]⟩
        · by_cases e : i = nb
          · rw [e, va_up_self]; exact ⟨_, z'.kept fun q g1 g2 => ho2 q (by omega)⟩
          · rw [va_up_ne _ _ e]
            obtain ⟨O1, y⟩ := b4 i (by omega)
            exact ⟨O1, y.kept fun q g1 g2 => by rw [ho2 q (by omega), ho1 q (by omega)]⟩
      · refine V_iconst (v := nI 0) d_HE_queue_27 (by decide +kernel) ?_
        exact V_zreturn d_HE_queue_28 rfl (by first | exact pB_or _ | exact Or.inl rfl | exact Or.inr rfl) (hF (by first | exact Or.inl hn | exact Or.inr (Or.inl (by omega)) | exact Or.inr (Or.inr hb24)))
theorem pBes_le (D : Dfn) (c : Int32) (E : Dfn) : pBes D c E ≤ 12 := by
  unfold pBes pI
  repeat' split
  all_goals omega
theorem pRule_le (ld : LdS) (D : Dfn) (c : Int32) (E : Dfn) : pRule ld D c E ≤ 12 := by
  unfold pRule
  split
  · exact pBes_le D c E
  · have := pAlone_le ld D
    omega
set_option maxHeartbeats 1000000 in
theorem c_HE_repeat {Γ : pmE} {G : pmG} {n : Nat} {Q : pmPost} {h lo : Nat} {f : Nat → Option Nat} {D : Dfn} {ch : Option Nat} {ld : LdS} {trs : Nat → Trf} {nb : Nat} {bt : Nat → Int32 × Dfn} {th : Nat → Thr} (dk : isDk G h lo n f D ch ld trs nb bt th) {x : Int32} (hF : ¬ pLd ld x → Q (some (.int (-1))) n G) (hB : ∀ c L, c < 6 → x = nI c → ld c = some L → pRule ld (dChgs trs x true L.2.2 5) x L.2.1 ≠ 0 → ∀ G', isDk G' h lo n f D ch ld trs nb bt th → (∀ q, (q < h ∨ (h + 220 ≤ q ∧ q < lo)) → G' q = G q) → Q (some (.int (nI (pRule ld (dChgs trs x true L.2.2 5) x L.2.1)))) n G') (hS : ∀ c L, c < 6 → x = nI c → ld c = some L → pRule ld (dChgs trs x true L.2.2 5) x L.2.1 = 0 → ∀ G', isDk G' h lo n f D ch (va_up ld c (some (L.1 + 1, dChgs trs x true L.2.2 5, L.2.2))) trs nb bt th → (∀ q, (q < h ∨ (h + 220 ≤ q ∧ q < lo)) → G' q = G q) → Q (some (.int (nI 0))) n G') : pV Γ m_HE_repeat 0 [some (.ref h), some (.int x), none, none] [] n G 0 0 Q := by
  obtain ⟨k1, kd, ks, kc, kb, kg, kt, kx, ky, kl, kn⟩ := dk
  obtain ⟨t0, D0, O0, kg⟩ := kg
  have hrl := fun D E => pRule_le ld D x E
  refine V_aload_n d_HE_repeat_0 rfl ?_
  refine V_getf d_HE_repeat_1 f_HE_23 k1 rfl ?_
  refine V_iload_n d_HE_repeat_4 rfl ?_
  refine V_callV (As := [.int x]) (rest := []) (lo' := [some (.ref (h + 18)), some (.int x)]) (bc1 := 0) (bs1 := 0) (bc' := 0) (bs' := 0) d_HE_repeat_5 k_HE_repeat_58 ks.1 rfl rfl rfl rfl (by rfl) (by rfl) ?_
  refine c_Sh_find ks (fun hn => ?_) (fun c L b hc hx hl hf hlo hhi hL => ?_)
  · show pV Γ m_HE_repeat 8 [some (.ref h), some (.int x), none, none] [.null] _ G 0 0 Q
    refine V_astore_nN d_HE_repeat_8 (Nat.le_of_ble_eq_true rfl) ?_
    show pV Γ _ _ [some (.ref h), some (.int x), some (.null), none] _ _ _ _ _ _
    refine V_aload_nN d_HE_repeat_9 rfl ?_
    refine V_ifnonnullN d_HE_repeat_10 ?_
    refine V_iconst (v := (-1)) d_HE_repeat_13 (by decide +kernel) ?_
    exact V_ireturn d_HE_repeat_14 rfl (hF hn)
  · show pV Γ m_HE_repeat 8 [some (.ref h), some (.int x), none, none] [.ref b] _ G 0 0 Q
    refine V_astore_n d_HE_repeat_8 (Nat.le_of_ble_eq_true rfl) ?_
    show pV Γ _ _ [some (.ref h), some (.int x), some (.ref b), none] _ _ _ _ _ _
    refine V_aload_n d_HE_repeat_9 rfl ?_
    refine V_ifnonnull (tgt := 15) d_HE_repeat_10 (by decide) ?_
    refine V_aload_n d_HE_repeat_15 rfl ?_
    refine V_getf d_HE_repeat_16 f_HE_44 k1 rfl ?_
    refine V_aload_n d_HE_repeat_19 rfl ?_
    refine V_getf d_HE_repeat_20 f_HE_146 hL.1 rfl ?_
    refine V_iload_n d_HE_repeat_23 rfl ?_
    refine V_callV (As := [.ref (b + 18), .int x]) (rest := []) (lo' := [some (.ref (h + 28)), some (.ref (b + 18)), some (.int x)]) (bc1 := 0) (bs1 := 0) (bc' := 0) (bs' := 0) d_HE_repeat_24 k_HE_repeat_106 kg.1 rfl rfl rfl rfl (by rfl) (by rfl) ?_
    refine c_Tr_take kg hL.2.2 (by omega) (fun G1 kg' ho1 => ?_)
    have k1 := (ho1 _ (by omega)).trans k1
    have kd := kd.kept (fun q g1 g2 => ho1 q (by omega))
    have ks := ks.kept (fun q hq => ho1 q (by omega))
    have kc := kc.kept (fun q g1 g2 => ho1 q (by omega))
    have kb := kb.kept (fun q hq => ho1 q (by omega))
    have kt := kt.kept (fun q hq => ho1 q (by omega))
    have hL := hL.kept (fun q g1 g2 => ho1 q (by omega))
    have kg := kg'
    show pV Γ m_HE_repeat 27 [some (.ref h), some (.int x), some (.ref b), none] [] _ G1 0 0 Q
    refine V_aload_n d_HE_repeat_27 rfl ?_
    refine V_getf d_HE_repeat_28 f_HE_30 k1 rfl ?_
    refine V_aload_n d_HE_repeat_31 rfl ?_
    refine V_getf d_HE_repeat_32 f_HE_44 k1 rfl ?_
    refine V_getf d_HE_repeat_35 f_HE_114 kg.1 rfl ?_
    refine V_iload_n d_HE_repeat_38 rfl ?_
    refine V_iconst (v := nI 1) d_HE_repeat_39 (by decide +kernel) ?_
    obtain ⟨g1, g2, g3⟩ := kg
    refine V_callV (As := [.ref (h + 28 + 1), .int x, .int (nI 1)]) (rest := []) (lo' := [some (.ref (h + 20)), some (.ref (h + 28 + 1)), some (.int x), some (.int (nI 1)), none, none]) (bc1 := 0) (bs1 := 0) (bc' := 0) (bs' := 0) d_HE_repeat_40 k_HE_repeat_149 kc.1 rfl rfl rfl rfl (by rfl) (by rfl) ?_
    refine c_Ch_change (rp := true) kc ky g2 (by omega) (pB_t rfl).symm (fun G2 g2 ho2 => ?_)
    have k1 := (ho2 _ (by omega)).trans k1
    have kd := kd.kept (fun q g1 g2 => ho2 q (by omega))
    have ks := ks.kept (fun q hq => ho2 q (by omega))
    have kc := kc.kept (fun q g1 g2 => ho2 q (by omega))
    have kb := kb.kept (fun q hq => ho2 q (by omega))
    have kt := kt.kept (fun q hq => ho2 q (by omega))
    have g1 := (ho2 _ (by omega)).trans g1
    have hL := hL.kept (fun q g1 g2 => ho2 q (by omega))
    have g3 := g3.kept (fun q g1 g2 => ho2 q (by omega))
    show pV Γ m_HE_repeat 43 [some (.ref h), some (.int x), some (.ref b), none] [] _ G2 0 0 Q
    refine V_aload_n d_HE_repeat_43 rfl ?_
    refine V_getf d_HE_repeat_44 f_HE_44 k1 rfl ?_
    refine V_getf d_HE_repeat_47 f_HE_114 g1 rfl ?_
    refine V_iload_n d_HE_repeat_50 rfl ?_
    refine V_aload_n d_HE_repeat_51 rfl ?_
    refine V_getf d_HE_repeat_52 f_HE_62 hL.1 rfl ?_
    refine V_aload_n d_HE_repeat_55 rfl ?_
    refine V_getf d_HE_repeat_56 f_HE_23 k1 rfl ?_
    refine V_callS (As := [.ref (h + 28 + 1), .int x, .ref (b + 1), .ref (h + 18)]) (rest := []) (lo' := [some (.ref (h + 28 + 1)), some (.int x), some (.ref (b + 1)), some (.ref (h + 18)), none]) (bc1 := 0) (bs1 := 0) (bc' := 0) (bs' := 0) d_HE_repeat_59 k_HE_repeat_153 rfl rfl rfl rfl (by rfl) (by rfl) ?_
    refine c_Ru_firstBroken g2 hL.2.1 ks ?_
    show pV Γ m_HE_repeat 62 [some (.ref h), some (.int x), some (.ref b), none] [.int (nI (pRule ld (dChgs trs x true L.2.2 5) x L.2.1))] _ G2 0 0 Q
    refine V_istore_n d_HE_repeat_62 (Nat.le_of_ble_eq_true rfl) ?_
    show pV Γ _ _ [some (.ref h), some (.int x), some (.ref b), some (.int (nI (pRule ld (dChgs trs x true L.2.2 5) x L.2.1)))] _ _ _ _ _ _
    refine V_iload_n d_HE_repeat_63 rfl ?_
    refine V_if_neN (tgt := 78) d_HE_repeat_64 (by decide) (by have := hrl (dChgs trs x true L.2.2 5) L.2.1; omega) (fun hb64 => ?_) (fun hb64 => ?_)
    · refine V_iload_n d_HE_repeat_78 rfl ?_
      exact V_ireturn d_HE_repeat_79 rfl (hB c L hc hx hl hb64 G2 ⟨k1, kd, ks, kc, kb, ⟨_, _, _, g1, g2, g3⟩, kt, kx, ky, kl, kn⟩ (fun q hq => by rw [ho2 q (by omega), ho1 q (by omega)]))
    · refine V_aload_n d_HE_repeat_67 rfl ?_
      refine V_aload_n d_HE_repeat_68 rfl ?_
      refine V_getf d_HE_repeat_69 f_HE_44 k1 rfl ?_
      refine V_getf d_HE_repeat_72 f_HE_114 g1 rfl ?_
      refine V_callV (As := [.ref (h + 28 + 1)]) (rest := []) (lo' := [some (.ref b), some (.ref (h + 28 + 1))]) (bc1 := 0) (bs1 := 0) (bc' := 0) (bs' := 0) d_HE_repeat_75 k_HE_repeat_157 hL.1 rfl rfl rfl rfl (by rfl) (by rfl) ?_
      refine c_Lc_addEdition hL g2 (by omega) (fun G3 hL' ho3 => ?_)
      have k1 := (ho3 _ (by omega)).trans k1
      have kd := kd.kept (fun q g1 g2 => ho3 q (by omega))
      have kc := kc.kept (fun q g1 g2 => ho3 q (by omega))
      have kb := kb.kept (fun q hq => ho3 q (by omega))
      have kt := kt.kept (fun q hq => ho3 q (by omega))
      have g1 := (ho3 _ (by omega)).trans g1
      have g3 := g3.kept (fun q g1 g2 => ho3 q (by omega))
      have g2 := g2.kept (fun q g1 g2 => ho3 q (by omega))
      have ks := ks.upd (by omega) hc hl hf (L' := (L.1 + 1, dChgs trs x true L.2.2 5, L.2.2)) hL' (fun q hq => ho3 q (by omega))
      show pV Γ m_HE_repeat 78 [some (.ref h), some (.int x), some (.ref b), some (.int (nI (pRule ld (dChgs trs x true L.2.2 5) x L.2.1)))] [] _ G3 0 0 Q
      refine V_iload_n d_HE_repeat_78 rfl ?_
      exact V_ireturn d_HE_repeat_79 rfl (pQ_n (k := 0) (hS c L hc hx hl hb64 G3 ⟨k1, kd, ks, kc, kb, ⟨_, _, _, g1, g2, g3⟩, kt, kx, ky, kl, kn⟩ (fun q hq => by rw [ho3 q (by omega), ho2 q (by omega), ho1 q (by omega)])) hb64.symm)
