/-! The desk: its cells, the draft's calls. -/
def chI (c : Option Nat) : Int32 := match c with
  | none => -1
  | some k => nI k
def pHd (G : pmG) (h : Nat) (ch : Option Nat) (nb : Nat) : Prop := G h = some (.inr (kHE, [.ref (h + 1), .int (chI ch), .ref (h + 18), .ref (h + 20), .ref (h + 27), .int (nI nb), .ref (h + 28), .ref (h + 63)]))
def pBt (G : pmG) (h nb : Nat) (bt : Nat → Int32 × Dfn) : Prop := nb ≤ 3 ∧ (∃ f, G (h + 27) = some (.inl (kTr + 2, 3, .inr (.inr (.inr (.inr f))))) ∧ ∀ i, i < 3 → f i = some (h + 64 + 35 * i)) ∧ (∀ i, i < 3 → ∃ t D O, isTr G (h + 64 + 35 * i) t D O) ∧ ∀ i, i < nb → ∃ O, isTr G (h + 64 + 35 * i) (bt i).1 (bt i).2 O
def pSg (G : pmG) (h : Nat) : Prop := ∃ t D O, isTr G (h + 28) t D O
def pTh (G : pmG) (h : Nat) (th : Nat → Thr) : Prop := (∃ f, G (h + 63) = some (.inl (kCl + 2, 3, .inr (.inr (.inr (.inr f))))) ∧ ∀ t, t < 3 → f t = some (h + 169 + 17 * t)) ∧ ∀ t, t < 3 → isCl G (h + 169 + 17 * t) (th t)
theorem pBt.kept {G G' : pmG} {h nb : Nat} {bt : Nat → Int32 × Dfn} (k : pBt G h nb bt) (hq : ∀ q, (q = h + 27 ∨ (h + 64 ≤ q ∧ q < h + 169)) → G' q = G q) : pBt G' h nb bt := by
  obtain ⟨h0, ⟨f, h1, h2⟩, h3, h4⟩ := k
  refine ⟨h0, ⟨f, by rw [hq _ (by omega)]; exact h1, h2⟩, fun i hi => ?_, fun i hi => ?_⟩
  · obtain ⟨t, D, O, z⟩ := h3 i hi
    exact ⟨t, D, O, z.kept fun q g1 g2 => hq q (by omega)⟩
  · obtain ⟨O, z⟩ := h4 i hi
    exact ⟨O, z.kept fun q g1 g2 => hq q (by omega)⟩
theorem pSg.kept {G G' : pmG} {h : Nat} (k : pSg G h) (hq : ∀ q, h + 28 ≤ q → q < h + 63 → G' q = G q) : pSg G' h := by
  obtain ⟨t, D, O, z⟩ := k
  exact ⟨t, D, O, z.kept fun q g1 g2 => hq q (by omega) (by omega)⟩
theorem pTh.kept {G G' : pmG} {h : Nat} {th : Nat → Thr} (k : pTh G h th) (hq : ∀ q, (q = h + 63 ∨ (h + 169 ≤ q ∧ q < h + 220)) → G' q = G q) : pTh G' h th := by
  obtain ⟨⟨f, h1, h2⟩, h3⟩ := k
  exact ⟨⟨f, by rw [hq _ (by omega)]; exact h1, h2⟩, fun t ht => (h3 t ht).kept fun q g1 g2 => hq q (by omega)⟩
def isDk (G : pmG) (h lo n : Nat) (f : Nat → Option Nat) (D : Dfn) (ch : Option Nat) (ld : LdS) (trs : Nat → Trf) (nb : Nat) (bt : Nat → Int32 × Dfn) (th : Nat → Thr) : Prop :=
  pHd G h ch nb ∧ isDef G (h + 1) D ∧ isSh G (h + 18) f ld lo n ∧ isCh G (h + 20) trs ∧ pBt G h nb bt ∧ pSg G h ∧ pTh G h th ∧ (∀ k, ch = some k → k < dNm D) ∧ (∀ k, k < 5 → (trs k).2.1 ≤ 4) ∧ h + 220 ≤ lo ∧ lo ≤ n
theorem isDk.kept {G G' : pmG} {h lo n : Nat} {f : Nat → Option Nat} {D : Dfn} {ch : Option Nat} {ld : LdS} {trs : Nat → Trf} {nb : Nat} {bt : Nat → Int32 × Dfn} {th : Nat → Thr} (dk : isDk G h lo n f D ch ld trs nb bt th) (hq : ∀ q, ((h ≤ q ∧ q < h + 220) ∨ lo ≤ q) → G' q = G q) : isDk G' h lo n f D ch ld trs nb bt th := by
  obtain ⟨k1, kd, ks, kc, kb, kg, kt, kx, ky, kl, kn⟩ := dk
  exact ⟨by unfold pHd; rw [hq h (by omega)]; exact k1, kd.kept fun q g1 g2 => hq q (by omega), ks.kept fun q hq' => hq q (by omega), kc.kept fun q g1 g2 => hq q (by omega), kb.kept fun q hq' => hq q (by omega), kg.kept fun q g1 g2 => hq q (by omega), kt.kept fun q hq' => hq q (by omega), kx, ky, kl, kn⟩
set_option maxHeartbeats 1000000 in
theorem c_HE_blank {Γ : pmE} {G : pmG} {n : Nat} {Q : pmPost} {h lo : Nat} {f : Nat → Option Nat} {D : Dfn} {ch : Option Nat} {ld : LdS} {trs : Nat → Trf} {nb : Nat} {bt : Nat → Int32 × Dfn} {th : Nat → Thr} (dk : isDk G h lo n f D ch ld trs nb bt th) (hQ : ∀ G', isDk G' h lo n f dBlk none ld trs nb bt th → (∀ q, (q < h ∨ (h + 220 ≤ q ∧ q < lo)) → G' q = G q) → Q none n G') : pV Γ m_HE_blank 0 [some (.ref h)] [] n G 0 0 Q := by
  obtain ⟨k1, kd, ks, kc, kb, kg, kt, kx, ky, kl, kn⟩ := dk
  refine V_aload_n d_HE_blank_0 rfl ?_
  refine V_getf d_HE_blank_1 f_HE_10 k1 rfl ?_
  refine V_callV (As := []) (rest := []) (lo' := [some (.ref (h + 1))]) (bc1 := 0) (bs1 := 0) (bc' := 0) (bs' := 0) d_HE_blank_4 k_HE_blank_55 kd.2.1 rfl rfl rfl rfl (by rfl) (by rfl) ?_
  refine c_Df_clear kd (fun G1 kd' ho1 => ?_)
  have k1 := (ho1 _ (by omega)).trans k1
  have ks := ks.kept (fun q hq => ho1 q (by omega))
  have kc := kc.kept (fun q g1 g2 => ho1 q (by omega))
  have kb := kb.kept (fun q hq => ho1 q (by omega))
  have kg := kg.kept (fun q g1 g2 => ho1 q (by omega))
  have kt := kt.kept (fun q hq => ho1 q (by omega))
  have kd := kd'
  show pV Γ m_HE_blank 7 [some (.ref h)] [] _ G1 0 0 Q
  refine V_aload_n d_HE_blank_7 rfl ?_
  refine V_iconst (v := (-1)) d_HE_blank_8 (by decide +kernel) ?_
  refine V_putf d_HE_blank_9 f_HE_16 p_HE_16 k1 rfl rfl rfl (fun G2 k1z ho2 => ?_)
  have k1 : G2 h = some (.inr (kHE, [.ref (h + 1), .int ((-1)), .ref (h + 18), .ref (h + 20), .ref (h + 27), .int (nI nb), .ref (h + 28), .ref (h + 63)])) := k1z
  have kd := kd.kept (fun q g1 g2 => ho2 q (by omega))
  have ks := ks.kept (fun q hq => ho2 q (by omega))
  have kc := kc.kept (fun q g1 g2 => ho2 q (by omega))
  have kb := kb.kept (fun q hq => ho2 q (by omega))
  have kg := kg.kept (fun q g1 g2 => ho2 q (by omega))
  have kt := kt.kept (fun q hq => ho2 q (by omega))
  exact V_return d_HE_blank_12 rfl (hQ G2 ⟨k1, kd, ks, kc, kb, kg, kt, (fun k hk => by cases hk), ky, kl, kn⟩ (fun q hq => by rw [ho2 q (by omega), ho1 q (by omega)]))
set_option maxHeartbeats 1000000 in
theorem c_HE_copy {Γ : pmE} {G : pmG} {n : Nat} {Q : pmPost} {h lo : Nat} {f : Nat → Option Nat} {D : Dfn} {ch : Option Nat} {ld : LdS} {trs : Nat → Trf} {nb : Nat} {bt : Nat → Int32 × Dfn} {th : Nat → Thr} (dk : isDk G h lo n f D ch ld trs nb bt th) {x : Int32} (hF : ¬ pLd ld x → Q (some (.int (nI 0))) n G) (hS : ∀ c L, c < 6 → x = nI c → ld c = some L → ∀ G', isDk G' h lo n f L.2.1 none ld trs nb bt th → (∀ q, (q < h ∨ (h + 220 ≤ q ∧ q < lo)) → G' q = G q) → Q (some (.int (nI 1))) n G') : pV Γ m_HE_copy 0 [some (.ref h), some (.int x), none] [] n G 0 0 Q := by
  obtain ⟨k1, kd, ks, kc, kb, kg, kt, kx, ky, kl, kn⟩ := dk
  refine V_aload_n d_HE_copy_0 rfl ?_
  refine V_getf d_HE_copy_1 f_HE_23 k1 rfl ?_
  refine V_iload_n d_HE_copy_4 rfl ?_
  refine V_callV (As := [.int x]) (rest := []) (lo' := [some (.ref (h + 18)), some (.int x)]) (bc1 := 0) (bs1 := 0) (bc' := 0) (bs' := 0) d_HE_copy_5 k_HE_copy_58 ks.1 rfl rfl rfl rfl (by rfl) (by rfl) ?_
  refine c_Sh_find ks (fun hn => ?_) (fun c L b hc hx hl hf hlo hhi hL => ?_)
  · show pV Γ m_HE_copy 8 [some (.ref h), some (.int x), none] [.null] _ G 0 0 Q
    refine V_astore_nN d_HE_copy_8 (Nat.le_of_ble_eq_true rfl) ?_
    show pV Γ _ _ [some (.ref h), some (.int x), some (.null)] _ _ _ _ _ _
    refine V_aload_nN d_HE_copy_9 rfl ?_
    refine V_ifnonnullN d_HE_copy_10 ?_
    refine V_iconst (v := nI 0) d_HE_copy_13 (by decide +kernel) ?_
    exact V_zreturn d_HE_copy_14 rfl (by first | exact pB_or _ | exact Or.inl rfl | exact Or.inr rfl) (hF hn)
  · obtain ⟨l1, l2, l3⟩ := hL
    show pV Γ m_HE_copy 8 [some (.ref h), some (.int x), none] [.ref b] _ G 0 0 Q
    refine V_astore_n d_HE_copy_8 (Nat.le_of_ble_eq_true rfl) ?_
    show pV Γ _ _ [some (.ref h), some (.int x), some (.ref b)] _ _ _ _ _ _
    refine V_aload_n d_HE_copy_9 rfl ?_
    refine V_ifnonnull (tgt := 15) d_HE_copy_10 (by decide) ?_
    refine V_aload_n d_HE_copy_15 rfl ?_
    refine V_getf d_HE_copy_16 f_HE_10 k1 rfl ?_
    refine V_aload_n d_HE_copy_19 rfl ?_
    refine V_getf d_HE_copy_20 f_HE_62 l1 rfl ?_
    refine V_callV (As := [.ref (b + 1)]) (rest := []) (lo' := [some (.ref (h + 1)), some (.ref (b + 1)), none]) (bc1 := 0) (bs1 := 0) (bc' := 0) (bs' := 0) d_HE_copy_23 k_HE_copy_67 kd.2.1 rfl rfl rfl rfl (by rfl) (by rfl) ?_
    refine c_Df_become kd l2 (by omega) (fun G1 kd' ho1 => ?_)
    have k1 := (ho1 _ (by omega)).trans k1
    have ks := ks.kept (fun q hq => ho1 q (by omega))
    have kc := kc.kept (fun q g1 g2 => ho1 q (by omega))
    have kb := kb.kept (fun q hq => ho1 q (by omega))
    have kg := kg.kept (fun q g1 g2 => ho1 q (by omega))
    have kt := kt.kept (fun q hq => ho1 q (by omega))
    have l1 := (ho1 _ (by omega)).trans l1
    have l2 := l2.kept (fun q g1 g2 => ho1 q (by omega))
    have kd := kd'
    show pV Γ m_HE_copy 26 [some (.ref h), some (.int x), some (.ref b)] [] _ G1 0 0 Q
    refine V_aload_n d_HE_copy_26 rfl ?_
    refine V_iconst (v := (-1)) d_HE_copy_27 (by decide +kernel) ?_
    refine V_putf d_HE_copy_28 f_HE_16 p_HE_16 k1 rfl rfl rfl (fun G2 k1z ho2 => ?_)
    have k1 : G2 h = some (.inr (kHE, [.ref (h + 1), .int ((-1)), .ref (h + 18), .ref (h + 20), .ref (h + 27), .int (nI nb), .ref (h + 28), .ref (h + 63)])) := k1z
    have kd := kd.kept (fun q g1 g2 => ho2 q (by omega))
    have ks := ks.kept (fun q hq => ho2 q (by omega))
    have kc := kc.kept (fun q g1 g2 => ho2 q (by omega))
    have kb := kb.kept (fun q hq => ho2 q (by omega))
    have kg := kg.kept (fun q g1 g2 => ho2 q (by omega))
    have kt := kt.kept (fun q hq => ho2 q (by omega))
    have l1 := (ho2 _ (by omega)).trans l1
    have l2 := l2.kept (fun q g1 g2 => ho2 q (by omega))
    refine V_iconst (v := nI 1) d_HE_copy_31 (by decide +kernel) ?_
    exact V_zreturn d_HE_copy_32 rfl (by first | exact pB_or _ | exact Or.inl rfl | exact Or.inr rfl) (hS c L hc hx hl G2 ⟨k1, kd, ks, kc, kb, kg, kt, (fun k hk => by cases hk), ky, kl, kn⟩ (fun q hq => by rw [ho2 q (by omega), ho1 q (by omega)]))
set_option maxHeartbeats 1000000 in
theorem c_HE_set {Γ : pmE} {G : pmG} {n : Nat} {Q : pmPost} {h lo : Nat} {f : Nat → Option Nat} {D : Dfn} {ch : Option Nat} {ld : LdS} {trs : Nat → Trf} {nb : Nat} {bt : Nat → Int32 × Dfn} {th : Nat → Thr} (dk : isDk G h lo n f D ch ld trs nb bt th) {j : Nat} {v : Int32} (hj : j < 5) (hQ : ∀ G', isDk G' h lo n f (dSetP D (upd (dP D) j v)) ch ld trs nb bt th → (∀ q, (q < h ∨ (h + 220 ≤ q ∧ q < lo)) → G' q = G q) → Q (some (.int (nI 1))) n G') : pV Γ m_HE_set 0 [some (.ref h), some (.int (nI j)), some (.int v)] [] n G 0 0 Q := by
  obtain ⟨k1, kd, ks, kc, kb, kg, kt, kx, ky, kl, kn⟩ := dk
  refine V_iload_n d_HE_set_0 rfl ?_
  refine V_if_ltN (tgt := 9) d_HE_set_1 (by decide) (by omega) ?_
  refine V_iload_n d_HE_set_4 rfl ?_
  refine V_iconst (v := nI 5) d_HE_set_5 (by decide +kernel) ?_
  refine V_icmp_ltN (tgt := 11) d_HE_set_6 (by decide) (by omega) (by omega) (fun hb6 => ?_) (fun hb6 => ?_)
  · refine V_aload_n d_HE_set_11 rfl ?_
    refine V_getf d_HE_set_12 f_HE_10 k1 rfl ?_
    obtain ⟨f1, h2, h2'⟩ := kd.2.2.1
    refine V_getf d_HE_set_15 f_HE_71 kd.2.1 rfl ?_
    refine V_iload_n d_HE_set_18 rfl ?_
    refine V_iload_n d_HE_set_19 rfl ?_
    refine V_iastore (j := j) d_HE_set_20 rfl h2 rfl (by omega) (by omega) (fun G1 h2z ho1 => ?_)
    have h2 := h2z
    have k1 := (ho1 _ (by omega)).trans k1
    refine V_iconst (v := nI 1) d_HE_set_21 (by decide +kernel) ?_
    refine V_zreturn d_HE_set_22 rfl (by first | exact pB_or _ | exact Or.inl rfl | exact Or.inr rfl) (hQ G1 ⟨k1, kd.parts h2 (fun k hk => ?_) ho1, ks.kept fun q hq => ho1 q (by omega), kc.kept fun q g1 g2 => ho1 q (by omega), kb.kept fun q hq => ho1 q (by omega), kg.kept fun q g1 g2 => ho1 q (by omega), kt.kept fun q hq => ho1 q (by omega), kx, ky, kl, kn⟩ (fun q hq => by rw [ho1 q (by omega)]))
    by_cases g : k = j
    · rw [g, pk_us, pk_us]
    · rw [pk_un g, pk_un g]; exact h2' k hk
  · exact absurd hb6 (by omega)
theorem c_HE_setF {Γ : pmE} {G : pmG} {n : Nat} {Q : pmPost} {h : Nat} {x v : Int32} (hx : x < 0 ∨ nI 5 ≤ x) (hF : Q (some (.int (nI 0))) n G) : pV Γ m_HE_set 0 [some (.ref h), some (.int x), some (.int v)] [] n G 0 0 Q := by
  refine V_iload_n d_HE_set_0 rfl ?_
  refine V_if_lt (tgt := 9) d_HE_set_1 (by decide) (fun hb1 => ?_) (fun hb1 => ?_)
  · refine V_iconst (v := nI 0) d_HE_set_9 (by decide +kernel) ?_
    exact V_zreturn d_HE_set_10 rfl (by first | exact pB_or _ | exact Or.inl rfl | exact Or.inr rfl) (hF)
  · refine V_iload_n d_HE_set_4 rfl ?_
    refine V_iconst (v := nI 5) d_HE_set_5 (by decide +kernel) ?_
    refine V_icmp_lt (tgt := 11) d_HE_set_6 (by decide) (fun hb6 => ?_) (fun hb6 => ?_)
    · exact absurd hx (fun e => e.elim hb1 (fun e => absurd hb6 (Int32.not_lt.mpr e)))
    · refine V_iconst (v := nI 0) d_HE_set_9 (by decide +kernel) ?_
      exact V_zreturn d_HE_set_10 rfl (by first | exact pB_or _ | exact Or.inl rfl | exact Or.inr rfl) (hF)
set_option maxHeartbeats 1000000 in
theorem c_HE_implement {Γ : pmE} {G : pmG} {n : Nat} {Q : pmPost} {h lo : Nat} {f : Nat → Option Nat} {D : Dfn} {ch : Option Nat} {ld : LdS} {trs : Nat → Trf} {nb : Nat} {bt : Nat → Int32 × Dfn} {th : Nat → Thr} (dk : isDk G h lo n f D ch ld trs nb bt th) {x : Int32} (hF : dNi D = 3 → Q (some (.int (nI 0))) n G) (hS : dNi D < 3 → ∀ G', isDk G' h lo n f (dAddI D x) ch ld trs nb bt th → (∀ q, (q < h ∨ (h + 220 ≤ q ∧ q < lo)) → G' q = G q) → Q (some (.int (nI 1))) n G') : pV Γ m_HE_implement 0 [some (.ref h), some (.int x)] [] n G 0 0 Q := by
  obtain ⟨k1, kd, ks, kc, kb, kg, kt, kx, ky, kl, kn⟩ := dk
  refine V_aload_n d_HE_implement_0 rfl ?_
  refine V_getf d_HE_implement_1 f_HE_10 k1 rfl ?_
  refine V_iload_n d_HE_implement_4 rfl ?_
  refine V_callV (As := [.int x]) (rest := []) (lo' := [some (.ref (h + 1)), some (.int x)]) (bc1 := 0) (bs1 := 0) (bc' := 0) (bs' := 0) d_HE_implement_5 k_HE_implement_75 kd.2.1 rfl rfl rfl rfl (by rfl) (by rfl) ?_
  refine c_Df_addInterface kd (fun hz => ?_) (fun hz G1 kd' ho1 => ?_)
  · show pV Γ m_HE_implement 8 [some (.ref h), some (.int x)] [.int (nI 0)] _ G 0 0 Q
    exact V_zreturn d_HE_implement_8 rfl (by first | exact pB_or _ | exact Or.inl rfl | exact Or.inr rfl) (hF hz)
  · show pV Γ m_HE_implement 8 [some (.ref h), some (.int x)] [.int (nI 1)] _ G1 0 0 Q
    exact V_zreturn d_HE_implement_8 rfl (by first | exact pB_or _ | exact Or.inl rfl | exact Or.inr rfl) (hS hz G1 ⟨(by unfold pHd; rw [ho1 h (by omega)]; exact k1), kd', ks.kept fun q hq => ho1 q (by omega), kc.kept fun q g1 g2 => ho1 q (by omega), kb.kept fun q hq => ho1 q (by omega), kg.kept fun q g1 g2 => ho1 q (by omega), kt.kept fun q hq => ho1 q (by omega), kx, ky, kl, kn⟩ (fun q hq => by rw [ho1 q (by omega)]))
set_option maxHeartbeats 1000000 in
theorem c_HE_field {Γ : pmE} {G : pmG} {n : Nat} {Q : pmPost} {h lo : Nat} {f : Nat → Option Nat} {D : Dfn} {ch : Option Nat} {ld : LdS} {trs : Nat → Trf} {nb : Nat} {bt : Nat → Int32 × Dfn} {th : Nat → Thr} (dk : isDk G h lo n f D ch ld trs nb bt th) {x y z : Int32} (hF : dNf D = 4 → Q (some (.int (nI 0))) n G) (hS : dNf D < 4 → ∀ G', isDk G' h lo n f (dAddF D x y z) ch ld trs nb bt th → (∀ q, (q < h ∨ (h + 220 ≤ q ∧ q < lo)) → G' q = G q) → Q (some (.int (nI 1))) n G') : pV Γ m_HE_field 0 [some (.ref h), some (.int x), some (.int y), some (.int z)] [] n G 0 0 Q := by
  obtain ⟨k1, kd, ks, kc, kb, kg, kt, kx, ky, kl, kn⟩ := dk
  refine V_aload_n d_HE_field_0 rfl ?_
  refine V_getf d_HE_field_1 f_HE_10 k1 rfl ?_
  refine V_iload_n d_HE_field_4 rfl ?_
  refine V_iload_n d_HE_field_5 rfl ?_
  refine V_iload_n d_HE_field_6 rfl ?_
  refine V_callV (As := [.int x, .int y, .int z]) (rest := []) (lo' := [some (.ref (h + 1)), some (.int x), some (.int y), some (.int z)]) (bc1 := 0) (bs1 := 0) (bc' := 0) (bs' := 0) d_HE_field_7 k_HE_field_79 kd.2.1 rfl rfl rfl rfl (by rfl) (by rfl) ?_
  refine c_Df_addField kd (fun hz => ?_) (fun hz G1 kd' ho1 => ?_)
  · show pV Γ m_HE_field 10 [some (.ref h), some (.int x), some (.int y), some (.int z)] [.int (nI 0)] _ G 0 0 Q
    exact V_zreturn d_HE_field_10 rfl (by first | exact pB_or _ | exact Or.inl rfl | exact Or.inr rfl) (hF hz)
  · show pV Γ m_HE_field 10 [some (.ref h), some (.int x), some (.int y), some (.int z)] [.int (nI 1)] _ G1 0 0 Q
    exact V_zreturn d_HE_field_10 rfl (by first | exact pB_or _ | exact Or.inl rfl | exact Or.inr rfl) (hS hz G1 ⟨(by unfold pHd; rw [ho1 h (by omega)]; exact k1), kd', ks.kept fun q hq => ho1 q (by omega), kc.kept fun q g1 g2 => ho1 q (by omega), kb.kept fun q hq => ho1 q (by omega), kg.kept fun q g1 g2 => ho1 q (by omega), kt.kept fun q hq => ho1 q (by omega), kx, ky, kl, kn⟩ (fun q hq => by rw [ho1 q (by omega)]))
set_option maxHeartbeats 1000000 in
theorem c_HE_method {Γ : pmE} {G : pmG} {n : Nat} {Q : pmPost} {h lo : Nat} {f : Nat → Option Nat} {D : Dfn} {ch : Option Nat} {ld : LdS} {trs : Nat → Trf} {nb : Nat} {bt : Nat → Int32 × Dfn} {th : Nat → Thr} (dk : isDk G h lo n f D ch ld trs nb bt th) {x y : Int32} (hF : dNm D = 4 → Q (some (.int (nI 0))) n G) (hS : dNm D < 4 → ∀ G', isDk G' h lo n f (dAddM D x y) (some (dNm D)) ld trs nb bt th → (∀ q, (q < h ∨ (h + 220 ≤ q ∧ q < lo)) → G' q = G q) → Q (some (.int (nI 1))) n G') : pV Γ m_HE_method 0 [some (.ref h), some (.int x), some (.int y)] [] n G 0 0 Q := by
  obtain ⟨k1, kd, ks, kc, kb, kg, kt, kx, ky, kl, kn⟩ := dk
  refine V_aload_n d_HE_method_0 rfl ?_
  refine V_getf d_HE_method_1 f_HE_10 k1 rfl ?_
  refine V_iload_n d_HE_method_4 rfl ?_
  refine V_iload_n d_HE_method_5 rfl ?_
  refine V_callV (As := [.int x, .int y]) (rest := []) (lo' := [some (.ref (h + 1)), some (.int x), some (.int y), none]) (bc1 := 0) (bs1 := 0) (bc' := 0) (bs' := 0) d_HE_method_6 k_HE_method_83 kd.2.1 rfl rfl rfl rfl (by rfl) (by rfl) ?_
  refine c_Df_addMethod kd (fun hz => ?_) (fun hz G1 kd' ho1 => ?_)
  · show pV Γ m_HE_method 9 [some (.ref h), some (.int x), some (.int y)] [.int (nI 0)] _ G 0 0 Q
    refine V_if_neN (tgt := 14) d_HE_method_9 (by decide) (by omega) (fun h => absurd h (by omega)) (fun _ => ?_)
    refine V_iconst (v := nI 0) d_HE_method_12 (by decide +kernel) ?_
    exact V_zreturn d_HE_method_13 rfl (by first | exact pB_or _ | exact Or.inl rfl | exact Or.inr rfl) (hF hz)
  · have k1 := (ho1 _ (by omega)).trans k1
    have ks := ks.kept (fun q hq => ho1 q (by omega))
    have kc := kc.kept (fun q g1 g2 => ho1 q (by omega))
    have kb := kb.kept (fun q hq => ho1 q (by omega))
    have kg := kg.kept (fun q g1 g2 => ho1 q (by omega))
    have kt := kt.kept (fun q hq => ho1 q (by omega))
    have kd := kd'
    show pV Γ m_HE_method 9 [some (.ref h), some (.int x), some (.int y)] [.int (nI 1)] _ G1 0 0 Q
    refine V_if_neN (tgt := 14) d_HE_method_9 (by decide) (by omega) (fun _ => ?_) (fun h => absurd h (by omega))
    refine V_aload_n d_HE_method_14 rfl ?_
    refine V_aload_n d_HE_method_15 rfl ?_
    refine V_getf d_HE_method_16 f_HE_10 k1 rfl ?_
    refine V_getf d_HE_method_19 f_HE_87 kd.2.1 rfl ?_
    refine V_iconst (v := nI 1) d_HE_method_22 (by decide +kernel) ?_
    show pV Γ _ _ _ (.int (nI 1) :: .int (nI (dNm D + 1)) :: _) _ _ _ _ _
    refine V_isubN d_HE_method_23 (by omega) ?_
    rw [Nat.add_sub_cancel]
    refine V_putf d_HE_method_24 f_HE_16 p_HE_16 k1 rfl rfl rfl (fun G2 k1z ho2 => ?_)
    have k1 : G2 h = some (.inr (kHE, [.ref (h + 1), .int (nI (dNm D)), .ref (h + 18), .ref (h + 20), .ref (h + 27), .int (nI nb), .ref (h + 28), .ref (h + 63)])) := k1z
    have kd := kd.kept (fun q g1 g2 => ho2 q (by omega))
    have ks := ks.kept (fun q hq => ho2 q (by omega))
    have kc := kc.kept (fun q g1 g2 => ho2 q (by omega))
    have kb := kb.kept (fun q hq => ho2 q (by omega))
    have kg := kg.kept (fun q g1 g2 => ho2 q (by omega))
    have kt := kt.kept (fun q hq => ho2 q (by omega))
    refine V_iconst (v := nI 1) d_HE_method_27 (by decide +kernel) ?_
    exact V_zreturn d_HE_method_28 rfl (by first | exact pB_or _ | exact Or.inl rfl | exact Or.inr rfl) (hS hz G2 ⟨k1, kd, ks, kc, kb, kg, kt, (fun k hk => by cases hk; show dNm D < dNm D + 1; omega), ky, kl, kn⟩ (fun q hq => by rw [ho2 q (by omega), ho1 q (by omega)]))
set_option maxHeartbeats 1000000 in
theorem c_HE_choose {Γ : pmE} {G : pmG} {n : Nat} {Q : pmPost} {h lo : Nat} {f : Nat → Option Nat} {D : Dfn} {ch : Option Nat} {ld : LdS} {trs : Nat → Trf} {nb : Nat} {bt : Nat → Int32 × Dfn} {th : Nat → Thr} (dk : isDk G h lo n f D ch ld trs nb bt th) {j : Nat} (hj : j < dNm D) (hQ : ∀ G', isDk G' h lo n f (dSetM D j (dN D j) (dG D j) 0 (dC D j)) (some j) ld trs nb bt th → (∀ q, (q < h ∨ (h + 220 ≤ q ∧ q < lo)) → G' q = G q) → Q (some (.int (nI 1))) n G') : pV Γ m_HE_choose 0 [some (.ref h), some (.int (nI j))] [] n G 0 0 Q := by
  obtain ⟨k1, kd, ks, kc, kb, kg, kt, kx, ky, kl, kn⟩ := dk
  have hnm4 := kd.1.2.2.1
  refine V_iload_n d_HE_choose_0 rfl ?_
  refine V_if_ltN (tgt := 15) d_HE_choose_1 (by decide) (by omega) ?_
  refine V_iload_n d_HE_choose_4 rfl ?_
  refine V_aload_n d_HE_choose_5 rfl ?_
  refine V_getf d_HE_choose_6 f_HE_10 k1 rfl ?_
  refine V_getf d_HE_choose_9 f_HE_87 kd.2.1 rfl ?_
  refine V_icmp_ltN (tgt := 17) d_HE_choose_12 (by decide) (by omega) (by omega) (fun hb12 => ?_) (fun hb12 => ?_)
  · refine V_aload_n d_HE_choose_17 rfl ?_
    refine V_iload_n d_HE_choose_18 rfl ?_
    refine V_putf d_HE_choose_19 f_HE_16 p_HE_16 k1 rfl rfl rfl (fun G1 k1z ho1 => ?_)
    have k1 : G1 h = some (.inr (kHE, [.ref (h + 1), .int (nI j), .ref (h + 18), .ref (h + 20), .ref (h + 27), .int (nI nb), .ref (h + 28), .ref (h + 63)])) := k1z
    have kd := kd.kept (fun q g1 g2 => ho1 q (by omega))
    have ks := ks.kept (fun q hq => ho1 q (by omega))
    have kc := kc.kept (fun q g1 g2 => ho1 q (by omega))
    have kb := kb.kept (fun q hq => ho1 q (by omega))
    have kg := kg.kept (fun q g1 g2 => ho1 q (by omega))
    have kt := kt.kept (fun q hq => ho1 q (by omega))
    have kd0 := kd
    refine V_aload_n d_HE_choose_22 rfl ?_
    refine V_getf d_HE_choose_23 f_HE_10 k1 rfl ?_
    obtain ⟨⟨hni, hnf, hnm, hln⟩, h1, ⟨f1, h2, h2'⟩, ⟨f2, h3, h3'⟩, ⟨f3, h4, h4'⟩, ⟨f4, h5, h5'⟩, h6, h7⟩ := kd
    refine V_getf d_HE_choose_26 f_HE_90 h1 rfl ?_
    refine V_iload_n d_HE_choose_29 rfl ?_
    refine V_aaload (j := j) d_HE_choose_30 rfl h5 rfl (by omega) (by omega) ?_
    rw [h5' j (by omega)]
    show pV Γ _ _ _ (.ref (h + 1 + 5 + 3 * j) :: _) _ _ _ _ _
    obtain ⟨m1, m2⟩ := h7 j (by omega)
    refine V_getf d_HE_choose_31 f_HE_94 m1 rfl ?_
    refine V_callV (As := []) (rest := []) (lo' := [some (.ref (h + 1 + 5 + 3 * j + 1))]) (bc1 := 0) (bs1 := 0) (bc' := 0) (bs' := 0) d_HE_choose_34 k_HE_choose_100 m2.2.1 rfl rfl rfl rfl (by rfl) (by rfl) ?_
    refine c_Cd_clear m2 (fun G2 m3 ho2 => ?_)
    show pV Γ m_HE_choose 37 [some (.ref h), some (.int (nI j))] [] _ G2 0 0 Q
    refine V_iconst (v := nI 1) d_HE_choose_37 (by decide +kernel) ?_
    exact V_zreturn d_HE_choose_38 rfl (by first | exact pB_or _ | exact Or.inl rfl | exact Or.inr rfl) (hQ G2 ⟨(by unfold pHd; rw [ho2 h (by omega)]; exact k1), kd0.mth (by omega) ⟨(ho2 _ (by omega)).trans m1, m3⟩ (fun q hq => ho2 q (by omega)), ks.kept fun q hq => ho2 q (by omega), kc.kept fun q g1 g2 => ho2 q (by omega), kb.kept fun q hq => ho2 q (by omega), kg.kept fun q g1 g2 => ho2 q (by omega), kt.kept fun q hq => ho2 q (by omega), (fun k hk => by cases hk; exact hj), ky, kl, kn⟩ (fun q hq => by rw [ho2 q (by omega), ho1 q (by omega)]))
  · exact absurd hb12 (by omega)
theorem c_HE_chooseF {Γ : pmE} {G : pmG} {n : Nat} {Q : pmPost} {h lo : Nat} {f : Nat → Option Nat} {D : Dfn} {ch : Option Nat} {ld : LdS} {trs : Nat → Trf} {nb : Nat} {bt : Nat → Int32 × Dfn} {th : Nat → Thr} (dk : isDk G h lo n f D ch ld trs nb bt th) {x : Int32} (hx : x < 0 ∨ nI (dNm D) ≤ x) (hF : Q (some (.int (nI 0))) n G) : pV Γ m_HE_choose 0 [some (.ref h), some (.int x)] [] n G 0 0 Q := by
  obtain ⟨k1, kd, ks, kc, kb, kg, kt, kx, ky, kl, kn⟩ := dk
  refine V_iload_n d_HE_choose_0 rfl ?_
  refine V_if_lt (tgt := 15) d_HE_choose_1 (by decide) (fun hb1 => ?_) (fun hb1 => ?_)
  · refine V_iconst (v := nI 0) d_HE_choose_15 (by decide +kernel) ?_
    exact V_zreturn d_HE_choose_16 rfl (by first | exact pB_or _ | exact Or.inl rfl | exact Or.inr rfl) (hF)
  · refine V_iload_n d_HE_choose_4 rfl ?_
    refine V_aload_n d_HE_choose_5 rfl ?_
    refine V_getf d_HE_choose_6 f_HE_10 k1 rfl ?_
    refine V_getf d_HE_choose_9 f_HE_87 kd.2.1 rfl ?_
    refine V_icmp_lt (tgt := 17) d_HE_choose_12 (by decide) (fun hb12 => ?_) (fun hb12 => ?_)
    · exact absurd hx (fun e => e.elim hb1 (fun e => absurd hb12 (Int32.not_lt.mpr e)))
    · refine V_iconst (v := nI 0) d_HE_choose_15 (by decide +kernel) ?_
      exact V_zreturn d_HE_choose_16 rfl (by first | exact pB_or _ | exact Or.inl rfl | exact Or.inr rfl) (hF)
set_option maxHeartbeats 1000000 in
theorem c_HE_code {Γ : pmE} {G : pmG} {n : Nat} {Q : pmPost} {h lo : Nat} {f : Nat → Option Nat} {D : Dfn} {j : Nat} {ld : LdS} {trs : Nat → Trf} {nb : Nat} {bt : Nat → Int32 × Dfn} {th : Nat → Thr} (dk : isDk G h lo n f D (some j) ld trs nb bt th) {x y z : Int32} (hF : dL D j = 6 → Q (some (.int (nI 0))) n G) (hS : dL D j < 6 → ∀ G', isDk G' h lo n f (dSetM D j (dN D j) (dG D j) (dL D j + 1) (cd_add (dL D j) (dC D j) x y z)) (some j) ld trs nb bt th → (∀ q, (q < h ∨ (h + 220 ≤ q ∧ q < lo)) → G' q = G q) → Q (some (.int (nI 1))) n G') : pV Γ m_HE_code 0 [some (.ref h), some (.int x), some (.int y), some (.int z)] [] n G 0 0 Q := by
  obtain ⟨k1, kd, ks, kc, kb, kg, kt, kx, ky, kl, kn⟩ := dk
  have hj := kx j rfl
  have hnm4 := kd.1.2.2.1
  have k1 : G h = some (.inr (kHE, [.ref (h + 1), .int (nI j), .ref (h + 18), .ref (h + 20), .ref (h + 27), .int (nI nb), .ref (h + 28), .ref (h + 63)])) := k1
  refine V_aload_n d_HE_code_0 rfl ?_
  refine V_getf d_HE_code_1 f_HE_16 k1 rfl ?_
  refine V_iconst (v := (-1)) d_HE_code_4 (by decide +kernel) ?_
  refine V_icmp_ne (tgt := 10) d_HE_code_5 (by decide) (fun _ => ?_) (fun e => absurd (congrArg Int32.toInt e) (by rw [nI_toInt (by omega)]; show (j : Int) ≠ -1; omega))
  refine V_aload_n d_HE_code_10 rfl ?_
  refine V_getf d_HE_code_11 f_HE_10 k1 rfl ?_
  have kd0 := kd
  obtain ⟨⟨hni, hnf, hnm, hln⟩, h1, ⟨f1, h2, h2'⟩, ⟨f2, h3, h3'⟩, ⟨f3, h4, h4'⟩, ⟨f4, h5, h5'⟩, h6, h7⟩ := kd
  refine V_getf d_HE_code_14 f_HE_90 h1 rfl ?_
  refine V_aload_n d_HE_code_17 rfl ?_
  refine V_getf d_HE_code_18 f_HE_16 k1 rfl ?_
  refine V_aaload (j := j) d_HE_code_21 rfl h5 rfl (by omega) (by omega) ?_
  rw [h5' j (by omega)]
  show pV Γ _ _ _ (.ref (h + 1 + 5 + 3 * j) :: _) _ _ _ _ _
  obtain ⟨m1, m2⟩ := h7 j (by omega)
  refine V_getf d_HE_code_22 f_HE_94 m1 rfl ?_
  refine V_iload_n d_HE_code_25 rfl ?_
  refine V_iload_n d_HE_code_26 rfl ?_
  refine V_iload_n d_HE_code_27 rfl ?_
  refine V_callV (As := [.int x, .int y, .int z]) (rest := []) (lo' := [some (.ref (h + 1 + 5 + 3 * j + 1)), some (.int x), some (.int y), some (.int z)]) (bc1 := 0) (bs1 := 0) (bc' := 0) (bs' := 0) d_HE_code_28 k_HE_code_103 m2.2.1 rfl rfl rfl rfl (by rfl) (by rfl) ?_
  refine c_Cd_add m2 (fun hz => ?_) (fun hz G2 m3 ho2 => ?_)
  · show pV Γ m_HE_code 31 [some (.ref h), some (.int x), some (.int y), some (.int z)] [.int (nI 0)] _ G 0 0 Q
    exact V_zreturn d_HE_code_31 rfl (by first | exact pB_or _ | exact Or.inl rfl | exact Or.inr rfl) (hF hz)
  · show pV Γ m_HE_code 31 [some (.ref h), some (.int x), some (.int y), some (.int z)] [.int (nI 1)] _ G2 0 0 Q
    exact V_zreturn d_HE_code_31 rfl (by first | exact pB_or _ | exact Or.inl rfl | exact Or.inr rfl) (hS hz G2 ⟨(by unfold pHd; rw [ho2 h (by omega) (by omega)]; exact k1), kd0.mth (by omega) ⟨(ho2 _ (by omega) (by omega)).trans m1, m3⟩ (fun q hq => ho2 q (by omega) (by omega)), ks.kept fun q hq => ho2 q (by omega) (by omega), kc.kept fun q g1 g2 => ho2 q (by omega) (by omega), kb.kept fun q hq => ho2 q (by omega) (by omega), kg.kept fun q g1 g2 => ho2 q (by omega) (by omega), kt.kept fun q hq => ho2 q (by omega) (by omega), kx, ky, kl, kn⟩ (fun q hq => by rw [ho2 q (by omega) (by omega)]))
theorem c_HE_codeF {Γ : pmE} {G : pmG} {n : Nat} {Q : pmPost} {h lo : Nat} {f : Nat → Option Nat} {D : Dfn} {ld : LdS} {trs : Nat → Trf} {nb : Nat} {bt : Nat → Int32 × Dfn} {th : Nat → Thr} (dk : isDk G h lo n f D none ld trs nb bt th) {x y z : Int32} (hF : Q (some (.int (nI 0))) n G) : pV Γ m_HE_code 0 [some (.ref h), some (.int x), some (.int y), some (.int z)] [] n G 0 0 Q := by
  obtain ⟨k1, kd, ks, kc, kb, kg, kt, kx, ky, kl, kn⟩ := dk
  have k1 : G h = some (.inr (kHE, [.ref (h + 1), .int (-1), .ref (h + 18), .ref (h + 20), .ref (h + 27), .int (nI nb), .ref (h + 28), .ref (h + 63)])) := k1
  refine V_aload_n d_HE_code_0 rfl ?_
  refine V_getf d_HE_code_1 f_HE_16 k1 rfl ?_
  refine V_iconst (v := (-1)) d_HE_code_4 (by decide +kernel) ?_
  refine V_icmp_ne (tgt := 10) d_HE_code_5 (by decide) (fun hb5 => ?_) (fun hb5 => ?_)
  · exact absurd rfl hb5
  · refine V_iconst (v := nI 0) d_HE_code_8 (by decide +kernel) ?_
    exact V_zreturn d_HE_code_9 rfl (by first | exact pB_or _ | exact Or.inl rfl | exact Or.inr rfl) (hF)
