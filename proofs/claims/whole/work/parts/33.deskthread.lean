/-! The desk: threads. -/
def pFr (th : Nat → Thr) (x y : Int32) : Prop := ∃ t k, t < 3 ∧ x = nI t ∧ y = nI k ∧ k < (th t).1
set_option maxHeartbeats 1000000 in
theorem c_HE_findFrame {Γ : pmE} {G : pmG} {n : Nat} {Q : pmPost} {h nb : Nat} {ch : Option Nat} {th : Nat → Thr} {x y : Int32} (k1 : pHd G h ch nb) (kt : pTh G h th) (hN : ¬ pFr th x y → Q (some .null) n G) (hS : ∀ t k, t < 3 → x = nI t → y = nI k → k < (th t).1 → Q (some (.ref (h + 169 + 17 * t + 2 + 3 * k))) n G) : pV Γ m_HE_findFrame 0 [some (.ref h), some (.int x), some (.int y)] [] n G 0 0 Q := by
  obtain ⟨⟨ft, t1, t2⟩, t3⟩ := kt
  refine V_iload_n d_HE_findFrame_0 rfl ?_
  refine V_callS (As := [.int x]) (rest := []) (lo' := [some (.int x)]) (bc1 := 0) (bs1 := 0) (bc' := 0) (bs' := 0) d_HE_findFrame_1 k_HE_findFrame_160 rfl rfl rfl rfl (by rfl) (by rfl) ?_
  refine c_HE_isThread ?_
  show pV Γ m_HE_findFrame 4 [some (.ref h), some (.int x), some (.int y)] [.int (pB (∃ j, j < 3 ∧ x = nI j))] _ G 0 0 Q
  refine V_if_eqB (tgt := 24) d_HE_findFrame_4 (by decide) (fun hb4 => ?_) (fun hb4 => ?_)
  · refine V_null d_HE_findFrame_24 ?_
    exact V_areturn d_HE_findFrame_25 rfl (Or.inl rfl) (by first | exact hN (fun ⟨t, k, ht, hx, hy, hk⟩ => absurd hb8 (by rw [hy]; exact nI_pos (by have := (t3 t ht).1; omega))) | exact hN (fun ⟨t', k, ht', hx', hy, hk⟩ => hb21 (by rw [hy, show t = t' from (nI_eq (by omega) (by omega)).mp (hx.symm.trans hx')]; exact (nI_ltI (by have := (t3 t' ht').1; omega) (by have := (t3 t' ht').1; omega)).mpr hk)) | exact hN (fun ⟨t, k, ht, hx, _⟩ => hb4 ⟨t, ht, hx⟩))
  · refine V_iload_n d_HE_findFrame_7 rfl ?_
    refine V_if_lt (tgt := 24) d_HE_findFrame_8 (by decide) (fun hb8 => ?_) (fun hb8 => ?_)
    · refine V_null d_HE_findFrame_24 ?_
      exact V_areturn d_HE_findFrame_25 rfl (Or.inl rfl) (by first | exact hN (fun ⟨t, k, ht, hx, hy, hk⟩ => absurd hb8 (by rw [hy]; exact nI_pos (by have := (t3 t ht).1; omega))) | exact hN (fun ⟨t', k, ht', hx', hy, hk⟩ => hb21 (by rw [hy, show t = t' from (nI_eq (by omega) (by omega)).mp (hx.symm.trans hx')]; exact (nI_ltI (by have := (t3 t' ht').1; omega) (by have := (t3 t' ht').1; omega)).mpr hk)) | exact hN (fun ⟨t, k, ht, hx, _⟩ => hb4 ⟨t, ht, hx⟩))
    · refine V_iload_n d_HE_findFrame_11 rfl ?_
      refine V_aload_n d_HE_findFrame_12 rfl ?_
      refine V_getf d_HE_findFrame_13 f_HE_50 k1 rfl ?_
      refine V_iload_n d_HE_findFrame_16 rfl ?_
      obtain ⟨t, ht, hx⟩ := hb4
      have h5 := (t3 t ht).1
      refine V_aaload (j := t) d_HE_findFrame_17 rfl t1 hx ht (by omega) ?_
      rw [t2 t ht]
      show pV Γ _ _ _ (.ref (h + 169 + 17 * t) :: _) _ _ _ _ _
      refine V_getf d_HE_findFrame_18 f_HE_163 (t3 t (by omega)).2.1 rfl ?_
      refine V_icmp_lt (tgt := 26) d_HE_findFrame_21 (by decide) (fun hb21 => ?_) (fun hb21 => ?_)
      · refine V_aload_n d_HE_findFrame_26 rfl ?_
        refine V_getf d_HE_findFrame_27 f_HE_50 k1 rfl ?_
        refine V_iload_n d_HE_findFrame_30 rfl ?_
        refine V_aaload (j := t) d_HE_findFrame_31 rfl t1 hx ht (by omega) ?_
        rw [t2 t ht]
        show pV Γ _ _ _ (.ref (h + 169 + 17 * t) :: _) _ _ _ _ _
        refine V_getf d_HE_findFrame_32 f_HE_198 (t3 t (by omega)).2.1 rfl ?_
        refine V_iload_n d_HE_findFrame_35 rfl ?_
        obtain ⟨k, hk1, hk⟩ := nI_of hb8
        rw [hk] at hb21
        have hk2 : k < (th t).1 := (nI_ltI hk1 (by omega)).mp hb21
        obtain ⟨-, -, ⟨fk, k1', k2'⟩, -, -⟩ := t3 t ht
        refine V_aaload (j := k) d_HE_findFrame_36 rfl k1' hk (by omega) (by omega) ?_
        rw [k2' k (by omega)]
        show pV Γ _ _ _ [.ref (h + 169 + 17 * t + 2 + 3 * k)] _ _ _ _ _
        exact V_areturn d_HE_findFrame_37 rfl (Or.inr ⟨_, rfl⟩) (hS t k ht hx hk hk2)
      · refine V_null d_HE_findFrame_24 ?_
        exact V_areturn d_HE_findFrame_25 rfl (Or.inl rfl) (by first | exact hN (fun ⟨t, k, ht, hx, hy, hk⟩ => absurd hb8 (by rw [hy]; exact nI_pos (by have := (t3 t ht).1; omega))) | exact hN (fun ⟨t', k, ht', hx', hy, hk⟩ => hb21 (by rw [hy, show t = t' from (nI_eq (by omega) (by omega)).mp (hx.symm.trans hx')]; exact (nI_ltI (by have := (t3 t' ht').1; omega) (by have := (t3 t' ht').1; omega)).mpr hk)) | exact hN (fun ⟨t, k, ht, hx, _⟩ => hb4 ⟨t, ht, hx⟩))
set_option maxHeartbeats 1000000 in
theorem c_HE_frame {Γ : pmE} {G : pmG} {n : Nat} {Q : pmPost} {h lo : Nat} {f : Nat → Option Nat} {D : Dfn} {ch : Option Nat} {ld : LdS} {trs : Nat → Trf} {nb : Nat} {bt : Nat → Int32 × Dfn} {th : Nat → Thr} (dk : isDk G h lo n f D ch ld trs nb bt th) {x y : Int32} (hN : ¬ pFr th x y → Q (some (.int (-1))) n G) (hS : ∀ t k, t < 3 → x = nI t → y = nI k → k < (th t).1 → Q (some (.int (nI 8 * ((th t).2.1 k).2.1 + ((th t).2.1 k).1))) n G) : pV Γ m_HE_frame 0 [some (.ref h), some (.int x), some (.int y), none] [] n G 0 0 Q := by
  obtain ⟨k1, kd, ks, kc, kb, kg, kt, kx, ky, kl, kn⟩ := dk
  have kt0 := kt
  obtain ⟨⟨ft, t1, t2⟩, t3⟩ := kt
  refine V_aload_n d_HE_frame_0 rfl ?_
  refine V_iload_n d_HE_frame_1 rfl ?_
  refine V_iload_n d_HE_frame_2 rfl ?_
  refine V_callV (As := [.int x, .int y]) (rest := []) (lo' := [some (.ref h), some (.int x), some (.int y)]) (bc1 := 0) (bs1 := 0) (bc' := 0) (bs' := 0) d_HE_frame_3 k_HE_frame_174 k1 rfl rfl rfl rfl (by rfl) (by rfl) ?_
  refine c_HE_findFrame k1 kt0 (fun hn => ?_) (fun t k ht hx hk hk2 => ?_)
  · show pV Γ m_HE_frame 6 [some (.ref h), some (.int x), some (.int y), none] [.null] _ G 0 0 Q
    refine V_astore_nN d_HE_frame_6 (Nat.le_of_ble_eq_true rfl) ?_
    show pV Γ _ _ [some (.ref h), some (.int x), some (.int y), some (.null)] _ _ _ _ _ _
    refine V_aload_nN d_HE_frame_7 rfl ?_
    refine V_ifnonnullN d_HE_frame_8 ?_
    refine V_iconst (v := (-1)) d_HE_frame_11 (by decide +kernel) ?_
    refine V_goto (tgt := 27) d_HE_frame_12 (by decide) ?_
    exact V_ireturn d_HE_frame_27 rfl (hN hn)
  · have fm := ((t3 t ht).2.2.2.2 k hk2).1.1
    show pV Γ m_HE_frame 6 [some (.ref h), some (.int x), some (.int y), none] [.ref (h + 169 + 17 * t + 2 + 3 * k)] _ G 0 0 Q
    refine V_astore_n d_HE_frame_6 (Nat.le_of_ble_eq_true rfl) ?_
    show pV Γ _ _ [some (.ref h), some (.int x), some (.int y), some (.ref (h + 169 + 17 * t + 2 + 3 * k))] _ _ _ _ _ _
    refine V_aload_n d_HE_frame_7 rfl ?_
    refine V_ifnonnull (tgt := 15) d_HE_frame_8 (by decide) ?_
    refine V_bipush (v := nI 8) d_HE_frame_15 (by decide +kernel) ?_
    refine V_aload_n d_HE_frame_17 rfl ?_
    refine V_getf d_HE_frame_18 f_HE_178 fm rfl ?_
    refine V_imul d_HE_frame_21 ?_
    refine V_aload_n d_HE_frame_22 rfl ?_
    refine V_getf d_HE_frame_23 f_HE_183 fm rfl ?_
    refine V_iadd d_HE_frame_26 ?_
    exact V_ireturn d_HE_frame_27 rfl (hS t k ht hx hk hk2)
set_option maxHeartbeats 1000000 in
theorem c_HE_result {Γ : pmE} {G : pmG} {n : Nat} {Q : pmPost} {h lo : Nat} {f : Nat → Option Nat} {D : Dfn} {ch : Option Nat} {ld : LdS} {trs : Nat → Trf} {nb : Nat} {bt : Nat → Int32 × Dfn} {th : Nat → Thr} (dk : isDk G h lo n f D ch ld trs nb bt th) {x : Int32} (hN : (¬ ∃ j, j < 3 ∧ x = nI j) → Q (some (.int (nI 0))) n G) (hS : ∀ t, t < 3 → x = nI t → Q (some (.int (th t).2.2)) n G) : pV Γ m_HE_result 0 [some (.ref h), some (.int x)] [] n G 0 0 Q := by
  obtain ⟨k1, kd, ks, kc, kb, kg, kt, kx, ky, kl, kn⟩ := dk
  have kt0 := kt
  obtain ⟨⟨ft, t1, t2⟩, t3⟩ := kt
  refine V_iload_n d_HE_result_0 rfl ?_
  refine V_callS (As := [.int x]) (rest := []) (lo' := [some (.int x)]) (bc1 := 0) (bs1 := 0) (bc' := 0) (bs' := 0) d_HE_result_1 k_HE_result_160 rfl rfl rfl rfl (by rfl) (by rfl) ?_
  refine c_HE_isThread ?_
  show pV Γ m_HE_result 4 [some (.ref h), some (.int x)] [.int (pB (∃ j, j < 3 ∧ x = nI j))] _ G 0 0 Q
  refine V_if_eqB (tgt := 19) d_HE_result_4 (by decide) (fun hb4 => ?_) (fun hb4 => ?_)
  · refine V_iconst (v := nI 0) d_HE_result_19 (by decide +kernel) ?_
    exact V_ireturn d_HE_result_20 rfl (hN hb4)
  · refine V_aload_n d_HE_result_7 rfl ?_
    refine V_getf d_HE_result_8 f_HE_50 k1 rfl ?_
    refine V_iload_n d_HE_result_11 rfl ?_
    obtain ⟨t, ht, hx⟩ := hb4
    refine V_aaload (j := t) d_HE_result_12 rfl t1 hx ht (by omega) ?_
    rw [t2 t ht]
    show pV Γ _ _ _ (.ref (h + 169 + 17 * t) :: _) _ _ _ _ _
    refine V_getf d_HE_result_13 f_HE_186 (t3 t (by omega)).2.1 rfl ?_
    refine V_goto (tgt := 20) d_HE_result_16 (by decide) ?_
    exact V_ireturn d_HE_result_20 rfl (hS t ht hx)
set_option maxHeartbeats 1000000 in
theorem c_HE_edition {Γ : pmE} {G : pmG} {n : Nat} {Q : pmPost} {h lo : Nat} {f : Nat → Option Nat} {D : Dfn} {ch : Option Nat} {ld : LdS} {trs : Nat → Trf} {nb : Nat} {bt : Nat → Int32 × Dfn} {th : Nat → Thr} (dk : isDk G h lo n f D ch ld trs nb bt th) {x : Int32} (hN : ¬ pLd ld x → Q (some (.int (nI 0))) n G) (hS : ∀ c L, c < 6 → x = nI c → ld c = some L → Q (some (.int (nI L.1))) n G) : pV Γ m_HE_edition 0 [some (.ref h), some (.int x), none] [] n G 0 0 Q := by
  obtain ⟨k1, kd, ks, kc, kb, kg, kt, kx, ky, kl, kn⟩ := dk
  refine V_aload_n d_HE_edition_0 rfl ?_
  refine V_getf d_HE_edition_1 f_HE_23 k1 rfl ?_
  refine V_iload_n d_HE_edition_4 rfl ?_
  refine V_callV (As := [.int x]) (rest := []) (lo' := [some (.ref (h + 18)), some (.int x)]) (bc1 := 0) (bs1 := 0) (bc' := 0) (bs' := 0) d_HE_edition_5 k_HE_edition_58 ks.1 rfl rfl rfl rfl (by rfl) (by rfl) ?_
  refine c_Sh_find ks (fun hn => ?_) (fun c L b hc hx hl hf hlo hhi hL => ?_)
  · show pV Γ m_HE_edition 8 [some (.ref h), some (.int x), none] [.null] _ G 0 0 Q
    refine V_astore_nN d_HE_edition_8 (Nat.le_of_ble_eq_true rfl) ?_
    show pV Γ _ _ [some (.ref h), some (.int x), some (.null)] _ _ _ _ _ _
    refine V_aload_nN d_HE_edition_9 rfl ?_
    refine V_ifnonnullN d_HE_edition_10 ?_
    refine V_iconst (v := nI 0) d_HE_edition_13 (by decide +kernel) ?_
    refine V_goto (tgt := 21) d_HE_edition_14 (by decide) ?_
    exact V_ireturn d_HE_edition_21 rfl (hN hn)
  · show pV Γ m_HE_edition 8 [some (.ref h), some (.int x), none] [.ref b] _ G 0 0 Q
    refine V_astore_n d_HE_edition_8 (Nat.le_of_ble_eq_true rfl) ?_
    show pV Γ _ _ [some (.ref h), some (.int x), some (.ref b)] _ _ _ _ _ _
    refine V_aload_n d_HE_edition_9 rfl ?_
    refine V_ifnonnull (tgt := 17) d_HE_edition_10 (by decide) ?_
    refine V_aload_n d_HE_edition_17 rfl ?_
    refine V_getf d_HE_edition_18 f_HE_189 hL.1 rfl ?_
    exact V_ireturn d_HE_edition_21 rfl (hS c L hc hx hl)
theorem pTh.upd {G G' : pmG} {h t : Nat} {th : Nat → Thr} {T : Thr} (k : pTh G h th) (ht : t < 3) (hc : isCl G' (h + 169 + 17 * t) T) (hq : ∀ q, (q < h + 169 + 17 * t ∨ h + 169 + 17 * t + 17 ≤ q) → G' q = G q) : pTh G' h (va_up th t T) := by
  obtain ⟨⟨f, h1, h2⟩, h3⟩ := k
  refine ⟨⟨f, by rw [hq _ (by omega)]; exact h1, h2⟩, fun j hj => ?_⟩
  by_cases e : j = t
  · rw [e, va_up_self]; exact hc
  · rw [va_up_ne _ _ e]; exact (h3 j hj).kept fun q g1 g2 => hq q (by omega)
set_option maxHeartbeats 1000000 in
theorem c_HE_start {Γ : pmE} {G : pmG} {n : Nat} {Q : pmPost} {h lo : Nat} {f : Nat → Option Nat} {D : Dfn} {ch : Option Nat} {ld : LdS} {trs : Nat → Trf} {nb : Nat} {bt : Nat → Int32 × Dfn} {th : Nat → Thr} (dk : isDk G h lo n f D ch ld trs nb bt th) {t : Nat} {x y : Int32} (ht : t < 3) (hF0 : (th t).1 ≠ 0 → Q (some (.int (nI 0))) n G) (hF : (th t).1 = 0 → pEnt ld (th t) x y = none → Q (some (.int (nI 0))) n G) (hS : (th t).1 = 0 → ∀ t', pEnt ld (th t) x y = some t' → ∀ G', isDk G' h lo n f D ch ld trs nb bt (va_up th t t') → (∀ q, (q < h ∨ (h + 220 ≤ q ∧ q < lo)) → G' q = G q) → Q (some (.int (nI 1))) n G') : pV Γ m_HE_start 0 [some (.ref h), some (.int (nI t)), some (.int x), some (.int y)] [] n G 0 0 Q := by
  obtain ⟨k1, kd, ks, kc, kb, kg, kt, kx, ky, kl, kn⟩ := dk
  have kt0 := kt
  obtain ⟨⟨ft, t1, t2⟩, t3⟩ := kt
  have h5 := (t3 t ht).1
  refine V_iload_n d_HE_start_0 rfl ?_
  refine V_callS (As := [.int (nI t)]) (rest := []) (lo' := [some (.int (nI t))]) (bc1 := 0) (bs1 := 0) (bc' := 0) (bs' := 0) d_HE_start_1 k_HE_start_160 rfl rfl rfl rfl (by rfl) (by rfl) ?_
  refine c_HE_isThread ?_
  show pV Γ m_HE_start 4 [some (.ref h), some (.int (nI t)), some (.int x), some (.int y)] [.int (pB (∃ j, j < 3 ∧ nI t = nI j))] _ G 0 0 Q
  refine V_if_eqB (tgt := 19) d_HE_start_4 (by decide) (fun hb4 => ?_) (fun hb4 => ?_)
  · refine V_iconst (v := nI 0) d_HE_start_19 (by decide +kernel) ?_
    exact V_zreturn d_HE_start_20 rfl (by first | exact pB_or _ | exact Or.inl rfl | exact Or.inr rfl) (by first | exact hF0 hb16 | exact absurd ⟨t, ht, rfl⟩ hb4)
  · refine V_aload_n d_HE_start_7 rfl ?_
    refine V_getf d_HE_start_8 f_HE_50 k1 rfl ?_
    refine V_iload_n d_HE_start_11 rfl ?_
    refine V_aaload (j := t) d_HE_start_12 rfl t1 rfl (by omega) (by omega) ?_
    rw [t2 t (by omega)]
    show pV Γ _ _ _ (.ref (h + 169 + 17 * t) :: _) _ _ _ _ _
    refine V_getf d_HE_start_13 f_HE_163 (t3 t (by omega)).2.1 rfl ?_
    refine V_if_eqN (tgt := 21) d_HE_start_16 (by decide) (by omega) (fun hb16 => ?_) (fun hb16 => ?_)
    · refine V_aload_n d_HE_start_21 rfl ?_
      refine V_getf d_HE_start_22 f_HE_50 k1 rfl ?_
      refine V_iload_n d_HE_start_25 rfl ?_
      refine V_aaload (j := t) d_HE_start_26 rfl t1 rfl (by omega) (by omega) ?_
      rw [t2 t (by omega)]
      show pV Γ _ _ _ (.ref (h + 169 + 17 * t) :: _) _ _ _ _ _
      refine V_iload_n d_HE_start_27 rfl ?_
      refine V_iload_n d_HE_start_28 rfl ?_
      refine V_aload_n d_HE_start_29 rfl ?_
      refine V_getf d_HE_start_30 f_HE_23 k1 rfl ?_
      refine V_callV (As := [.int x, .int y, .ref (h + 18)]) (rest := []) (lo' := [some (.ref (h + 169 + 17 * t)), some (.int x), some (.int y), some (.ref (h + 18)), none, none]) (bc1 := 0) (bs1 := 0) (bc' := 0) (bs' := 0) d_HE_start_33 k_HE_start_166 (t3 t ht).2.1 rfl rfl rfl rfl (by rfl) (by rfl) ?_
      refine c_Cl_enter (t3 t ht) ks (by omega) (fun hz => ?_) (fun t' hz G1 hc ho1 => ?_)
      · show pV Γ m_HE_start 36 [some (.ref h), some (.int (nI t)), some (.int x), some (.int y)] [.int (nI 0)] _ G 0 0 Q
        exact V_zreturn d_HE_start_36 rfl (by first | exact pB_or _ | exact Or.inl rfl | exact Or.inr rfl) (hF hb16 hz)
      · show pV Γ m_HE_start 36 [some (.ref h), some (.int (nI t)), some (.int x), some (.int y)] [.int (nI 1)] _ G1 0 0 Q
        exact V_zreturn d_HE_start_36 rfl (by first | exact pB_or _ | exact Or.inl rfl | exact Or.inr rfl) (hS hb16 t' hz G1 ⟨(by unfold pHd; rw [ho1 h (by omega)]; exact k1), kd.kept fun q g1 g2 => ho1 q (by omega), ks.kept fun q hq => ho1 q (by omega), kc.kept fun q g1 g2 => ho1 q (by omega), kb.kept fun q hq => ho1 q (by omega), kg.kept fun q g1 g2 => ho1 q (by omega), kt0.upd ht hc ho1, kx, ky, kl, kn⟩ (fun q hq => ho1 q (by omega)))
    · refine V_iconst (v := nI 0) d_HE_start_19 (by decide +kernel) ?_
      exact V_zreturn d_HE_start_20 rfl (by first | exact pB_or _ | exact Or.inl rfl | exact Or.inr rfl) (by first | exact hF0 hb16 | exact absurd ⟨t, ht, rfl⟩ hb4)
theorem c_HE_startF {Γ : pmE} {G : pmG} {n : Nat} {Q : pmPost} {h : Nat} {z x y : Int32} (hz : ¬ ∃ j, j < 3 ∧ z = nI j) (hF : Q (some (.int (nI 0))) n G) : pV Γ m_HE_start 0 [some (.ref h), some (.int z), some (.int x), some (.int y)] [] n G 0 0 Q := by
  refine V_iload_n d_HE_start_0 rfl ?_
  refine V_callS (As := [.int z]) (rest := []) (lo' := [some (.int z)]) (bc1 := 0) (bs1 := 0) (bc' := 0) (bs' := 0) d_HE_start_1 k_HE_start_160 rfl rfl rfl rfl (by rfl) (by rfl) ?_
  refine c_HE_isThread ?_
  show pV Γ m_HE_start 4 [some (.ref h), some (.int z), some (.int x), some (.int y)] [.int (pB (∃ j, j < 3 ∧ z = nI j))] _ G 0 0 Q
  refine V_if_eqB (tgt := 19) d_HE_start_4 (by decide) (fun hb4 => ?_) (fun hb4 => ?_)
  · refine V_iconst (v := nI 0) d_HE_start_19 (by decide +kernel) ?_
    exact V_zreturn d_HE_start_20 rfl (by first | exact pB_or _ | exact Or.inl rfl | exact Or.inr rfl) (hF)
  · exact absurd hb4 hz
def stp (ld : LdS) : Nat → Thr → Thr × Nat
  | 0, t => (t, 0)
  | k + 1, t => if t.1 = 0 then (t, 0) else ((stp ld k (pStep ld t)).1, (stp ld k (pStep ld t)).2 + 1)
theorem stp_idle {ld : LdS} {k : Nat} {t : Thr} (h : t.1 = 0) : stp ld k t = (t, 0) := by
  cases k with
  | zero => rfl
  | succ k => unfold stp; rw [if_pos h]
theorem stp_go {ld : LdS} {k : Nat} {t : Thr} (h : t.1 ≠ 0) : stp ld (k + 1) t = ((stp ld k (pStep ld t)).1, (stp ld k (pStep ld t)).2 + 1) := by
  show (if t.1 = 0 then (t, 0) else _) = _
  rw [if_neg h]
set_option maxHeartbeats 1000000 in
theorem c_HE_step0 {Γ : pmE} {G : pmG} {n : Nat} {Q : pmPost} {h lo : Nat} {f : Nat → Option Nat} {ch : Option Nat} {ld : LdS} {nb : Nat} {th : Nat → Thr} {t m : Nat} (ht : t < 3) (hm : m ≤ 100) (kl : h + 220 ≤ lo) (k1 : pHd G h ch nb) (ks : isSh G (h + 18) f ld lo n) (kt : pTh G h th) (hQ : ∀ G', isCl G' (h + 169 + 17 * t) (stp ld m (th t)).1 → (∀ q, (q < h + 169 + 17 * t ∨ h + 169 + 17 * t + 17 ≤ q) → G' q = G q) → Q (some (.int (nI (stp ld m (th t)).2))) n G') : pV Γ m_HE_step 0 [some (.ref h), some (.int (nI t)), some (.int (nI m)), none] [] n G 0 0 Q := by
  obtain ⟨⟨ft, t1, t2⟩, t3⟩ := kt
  have loop : ∀ (d i : Nat), i ≤ m → m - i < d → ∀ (G1 : pmG) (T : Thr), pHd G1 h ch nb → G1 (h + 63) = some (.inl (kCl + 2, 3, .inr (.inr (.inr (.inr ft))))) → isSh G1 (h + 18) f ld lo n → isCl G1 (h + 169 + 17 * t) T → stp ld m (th t) = ((stp ld (m - i) T).1, i + (stp ld (m - i) T).2) → (∀ q, (q < h + 169 + 17 * t ∨ h + 169 + 17 * t + 17 ≤ q) → G1 q = G q) → pV Γ m_HE_step 21 [some (.ref h), some (.int (nI t)), some (.int (nI m)), some (.int (nI i))] [] n G1 0 0 Q := by
    intro d
    induction d with
    | zero => intro i _ hd; exact absurd hd (by omega)
    | succ d ih =>
      intro i hi hd G1 T k1 t1 ks hc hv ho
      have h5 := hc.1
      have fin : stp ld (m - i) T = (T, 0) → Q (some (.int (nI i))) n G1 := fun e => by
        rw [e] at hv
        have hq := hQ G1 (by rw [hv]; exact hc) ho
        rw [hv] at hq
        exact hq
      refine V_iload_n d_HE_step_21 rfl ?_
      refine V_iload_n d_HE_step_22 rfl ?_
      refine V_icmp_geN (tgt := 57) d_HE_step_23 (by decide) (by omega) (by omega) (fun hb23 => ?_) (fun hb23 => ?_)
      · refine V_iload_n d_HE_step_57 rfl ?_
        exact V_ireturn d_HE_step_58 rfl (fin (by first | exact stp_idle hb35 | (rw [show m - i = 0 by omega]; rfl)))
      · refine V_aload_n d_HE_step_26 rfl ?_
        refine V_getf d_HE_step_27 f_HE_50 k1 rfl ?_
        refine V_iload_n d_HE_step_30 rfl ?_
        refine V_aaload (j := t) d_HE_step_31 rfl t1 rfl (by omega) (by omega) ?_
        rw [t2 t (by omega)]
        show pV Γ _ _ _ (.ref (h + 169 + 17 * t) :: _) _ _ _ _ _
        refine V_getf d_HE_step_32 f_HE_163 hc.2.1 rfl ?_
        refine V_if_eqN (tgt := 57) d_HE_step_35 (by decide) (by omega) (fun hb35 => ?_) (fun hb35 => ?_)
        · refine V_iload_n d_HE_step_57 rfl ?_
          exact V_ireturn d_HE_step_58 rfl (fin (by first | exact stp_idle hb35 | (rw [show m - i = 0 by omega]; rfl)))
        · refine V_aload_n d_HE_step_38 rfl ?_
          refine V_getf d_HE_step_39 f_HE_50 k1 rfl ?_
          refine V_iload_n d_HE_step_42 rfl ?_
          refine V_aaload (j := t) d_HE_step_43 rfl t1 rfl (by omega) (by omega) ?_
          rw [t2 t (by omega)]
          show pV Γ _ _ _ (.ref (h + 169 + 17 * t) :: _) _ _ _ _ _
          refine V_aload_n d_HE_step_44 rfl ?_
          refine V_getf d_HE_step_45 f_HE_23 k1 rfl ?_
          refine V_callV (As := [.ref (h + 18)]) (rest := []) (lo' := [some (.ref (h + 169 + 17 * t)), some (.ref (h + 18)), none, none]) (bc1 := 0) (bs1 := 0) (bc' := 0) (bs' := 0) d_HE_step_48 k_HE_step_170 hc.2.1 rfl rfl rfl rfl (by rfl) (by rfl) ?_
          refine c_Cl_advance hc (by omega) ks (by omega) (by omega) (fun G2 hc2 ho2 => ?_)
          show pV Γ m_HE_step 51 [some (.ref h), some (.int (nI t)), some (.int (nI m)), some (.int (nI i))] [] _ G2 0 0 Q
          refine V_iincN d_HE_step_51 rfl ?_
          show pV Γ _ _ [some (.ref h), some (.int (nI t)), some (.int (nI m)), some (.int (nI (i + 1)))] _ _ _ _ _ _
          refine V_goto (tgt := 21) d_HE_step_54 (by decide) ?_
          refine ih (i + 1) (by omega) (by omega) G2 (pStep ld T) ((ho2 _ (by omega)).trans k1) ((ho2 _ (by omega)).trans t1) (ks.kept fun q hq => ho2 q (by omega)) hc2 ?_ (fun q hq => by rw [ho2 q hq, ho q hq])
          rw [hv, show m - i = (m - (i + 1)) + 1 by omega, stp_go hb35]
          exact congrArg (Prod.mk _) (by omega)
  refine V_iload_n d_HE_step_0 rfl ?_
  refine V_callS (As := [.int (nI t)]) (rest := []) (lo' := [some (.int (nI t))]) (bc1 := 0) (bs1 := 0) (bc' := 0) (bs' := 0) d_HE_step_1 k_HE_step_160 rfl rfl rfl rfl (by rfl) (by rfl) ?_
  refine c_HE_isThread ?_
  show pV Γ m_HE_step 4 [some (.ref h), some (.int (nI t)), some (.int (nI m)), none] [.int (pB (∃ j, j < 3 ∧ nI t = nI j))] _ G 0 0 Q
  refine V_if_eqB (tgt := 17) d_HE_step_4 (by decide) (fun hb4 => ?_) (fun hb4 => ?_)
  · first | exact absurd hb14 (by omega) | exact absurd ⟨t, ht, rfl⟩ hb4
  · refine V_iload_n d_HE_step_7 rfl ?_
    refine V_if_ltN (tgt := 17) d_HE_step_8 (by decide) (by omega) ?_
    refine V_iload_n d_HE_step_11 rfl ?_
    refine V_bipush (v := nI 100) d_HE_step_12 (by decide +kernel) ?_
    refine V_icmp_leN (tgt := 19) d_HE_step_14 (by decide) (by omega) (by omega) (fun hb14 => ?_) (fun hb14 => ?_)
    · refine V_iconst (v := nI 0) d_HE_step_19 (by decide +kernel) ?_
      refine V_istore_n d_HE_step_20 (Nat.le_of_ble_eq_true rfl) ?_
      show pV Γ _ _ [some (.ref h), some (.int (nI t)), some (.int (nI m)), some (.int (nI 0))] _ _ _ _ _ _
      exact loop (m + 1) 0 (by omega) (by omega) G (th t) k1 t1 ks (t3 t ht) (by simp) (fun q _ => rfl)
    · first | exact absurd hb14 (by omega) | exact absurd ⟨t, ht, rfl⟩ hb4
set_option maxHeartbeats 1000000 in
theorem c_HE_step {Γ : pmE} {G : pmG} {n : Nat} {Q : pmPost} {h lo : Nat} {f : Nat → Option Nat} {D : Dfn} {ch : Option Nat} {ld : LdS} {trs : Nat → Trf} {nb : Nat} {bt : Nat → Int32 × Dfn} {th : Nat → Thr} (dk : isDk G h lo n f D ch ld trs nb bt th) {t m : Nat} (ht : t < 3) (hm : m ≤ 100) (hQ : ∀ G', isDk G' h lo n f D ch ld trs nb bt (va_up th t (stp ld m (th t)).1) → (∀ q, (q < h ∨ (h + 220 ≤ q ∧ q < lo)) → G' q = G q) → Q (some (.int (nI (stp ld m (th t)).2))) n G') : pV Γ m_HE_step 0 [some (.ref h), some (.int (nI t)), some (.int (nI m)), none] [] n G 0 0 Q := by
  obtain ⟨k1, kd, ks, kc, kb, kg, kt, kx, ky, kl, kn⟩ := dk
  have kt0 := kt
  refine c_HE_step0 ht hm kl k1 ks kt (fun G1 hc ho1 => hQ G1 ⟨(by unfold pHd; rw [ho1 h (by omega)]; exact k1), kd.kept fun q g1 g2 => ho1 q (by omega), ks.kept fun q hq => ho1 q (by omega), kc.kept fun q g1 g2 => ho1 q (by omega), kb.kept fun q hq => ho1 q (by omega), kg.kept fun q g1 g2 => ho1 q (by omega), kt0.upd ht hc ho1, kx, ky, kl, kn⟩ (fun q hq => ho1 q (by omega)))
theorem c_HE_stepF {Γ : pmE} {G : pmG} {n : Nat} {Q : pmPost} {h : Nat} {z y : Int32} (hz : (¬ ∃ j, j < 3 ∧ z = nI j) ∨ y < 0 ∨ nI 100 < y) (hF : Q (some (.int (-1))) n G) : pV Γ m_HE_step 0 [some (.ref h), some (.int z), some (.int y), none] [] n G 0 0 Q := by
  refine V_iload_n d_HE_step_0 rfl ?_
  refine V_callS (As := [.int z]) (rest := []) (lo' := [some (.int z)]) (bc1 := 0) (bs1 := 0) (bc' := 0) (bs' := 0) d_HE_step_1 k_HE_step_160 rfl rfl rfl rfl (by rfl) (by rfl) ?_
  refine c_HE_isThread ?_
  show pV Γ m_HE_step 4 [some (.ref h), some (.int z), some (.int y), none] [.int (pB (∃ j, j < 3 ∧ z = nI j))] _ G 0 0 Q
  refine V_if_eqB (tgt := 17) d_HE_step_4 (by decide) (fun hb4 => ?_) (fun hb4 => ?_)
  · refine V_iconst (v := (-1)) d_HE_step_17 (by decide +kernel) ?_
    exact V_ireturn d_HE_step_18 rfl (hF)
  · refine V_iload_n d_HE_step_7 rfl ?_
    refine V_if_lt (tgt := 17) d_HE_step_8 (by decide) (fun hb8 => ?_) (fun hb8 => ?_)
    · refine V_iconst (v := (-1)) d_HE_step_17 (by decide +kernel) ?_
      exact V_ireturn d_HE_step_18 rfl (hF)
    · refine V_iload_n d_HE_step_11 rfl ?_
      refine V_bipush (v := nI 100) d_HE_step_12 (by decide +kernel) ?_
      refine V_icmp_le (tgt := 19) d_HE_step_14 (by decide) (fun hb14 => ?_) (fun hb14 => ?_)
      · exact absurd hz (fun e => e.elim (fun e => e hb4) (fun e => e.elim hb8 (fun e => absurd hb14 (Int32.not_le.mpr e))))
      · refine V_iconst (v := (-1)) d_HE_step_17 (by decide +kernel) ?_
        exact V_ireturn d_HE_step_18 rfl (hF)
