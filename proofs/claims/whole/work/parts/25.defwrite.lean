/-! Definition: what changes it, and its constructor. -/
def dBlk : Dfn := (fun k => if k = 0 then nI 1 else if k = 2 then -1 else nI 0, (0, fun _ => 0), (0, fun _ => 0), 0, fun _ => 0, fun _ => 0, fun _ => 0, fun _ _ => 0)
def dAddI (D : Dfn) (x : Int32) : Dfn := (dP D, (dNi D + 1, upd (dI D) (dNi D) x), (dNf D, dF D), dNm D, dN D, dG D, dL D, dC D)
def dAddF (D : Dfn) (x y z : Int32) : Dfn := (dP D, (dNi D, dI D), (dNf D + 1, upd (upd (upd (dF D) (dNf D * 3) x) (dNf D * 3 + 1) y) (dNf D * 3 + 2) z), dNm D, dN D, dG D, dL D, dC D)
def dAddM (D : Dfn) (x y : Int32) : Dfn := (dP D, (dNi D, dI D), (dNf D, dF D), dNm D + 1, upd (dN D) (dNm D) x, upd (dG D) (dNm D) y, va_up (dL D) (dNm D) 0, dC D)
set_option maxHeartbeats 1000000 in
theorem c_Df_clear {Γ : pmE} {G : pmG} {n : Nat} {Q : pmPost} {a : Nat} {D : Dfn} (h : isDef G a D) (hQ : ∀ G', isDef G' a dBlk → (∀ q, (q < a ∨ a + 17 ≤ q) → G' q = G q) → Q none n G') : pV Γ m_Df_clear 0 [some (.ref a)] [] n G 0 0 Q := by
  obtain ⟨⟨hni, hnf, hnm, hln⟩, h1, ⟨f1, h2, h2'⟩, ⟨f2, h3, h3'⟩, ⟨f3, h4, h4'⟩, ⟨f4, h5, h5'⟩, h6, h7⟩ := h
  refine V_aload_n d_Df_clear_0 rfl ?_
  refine V_getf d_Df_clear_1 f_Df_9 h1 rfl ?_
  refine V_iconst (v := nI 0) d_Df_clear_4 (by decide +kernel) ?_
  refine V_iconst (v := nI 1) d_Df_clear_5 (by decide +kernel) ?_
  refine V_iastore (j := 0) d_Df_clear_6 rfl h2 rfl (by omega) (by omega) (fun G1 h2z ho1 => ?_)
  have h2 := h2z
  have h1 := (ho1 _ (by omega)).trans h1
  refine V_aload_n d_Df_clear_7 rfl ?_
  refine V_getf d_Df_clear_8 f_Df_9 h1 rfl ?_
  refine V_iconst (v := nI 1) d_Df_clear_11 (by decide +kernel) ?_
  refine V_iconst (v := nI 0) d_Df_clear_12 (by decide +kernel) ?_
  refine V_iastore (j := 1) d_Df_clear_13 rfl h2 rfl (by omega) (by omega) (fun G2 h2z ho2 => ?_)
  have h2 := h2z
  have h1 := (ho2 _ (by omega)).trans h1
  refine V_aload_n d_Df_clear_14 rfl ?_
  refine V_getf d_Df_clear_15 f_Df_9 h1 rfl ?_
  refine V_iconst (v := nI 2) d_Df_clear_18 (by decide +kernel) ?_
  refine V_iconst (v := (-1)) d_Df_clear_19 (by decide +kernel) ?_
  refine V_iastore (j := 2) d_Df_clear_20 rfl h2 rfl (by omega) (by omega) (fun G3 h2z ho3 => ?_)
  have h2 := h2z
  have h1 := (ho3 _ (by omega)).trans h1
  refine V_aload_n d_Df_clear_21 rfl ?_
  refine V_getf d_Df_clear_22 f_Df_9 h1 rfl ?_
  refine V_iconst (v := nI 3) d_Df_clear_25 (by decide +kernel) ?_
  refine V_iconst (v := nI 0) d_Df_clear_26 (by decide +kernel) ?_
  refine V_iastore (j := 3) d_Df_clear_27 rfl h2 rfl (by omega) (by omega) (fun G4 h2z ho4 => ?_)
  have h2 := h2z
  have h1 := (ho4 _ (by omega)).trans h1
  refine V_aload_n d_Df_clear_28 rfl ?_
  refine V_getf d_Df_clear_29 f_Df_9 h1 rfl ?_
  refine V_iconst (v := nI 4) d_Df_clear_32 (by decide +kernel) ?_
  refine V_iconst (v := nI 0) d_Df_clear_33 (by decide +kernel) ?_
  refine V_iastore (j := 4) d_Df_clear_34 rfl h2 rfl (by omega) (by omega) (fun G5 h2z ho5 => ?_)
  have h2 := h2z
  have h1 := (ho5 _ (by omega)).trans h1
  refine V_aload_n d_Df_clear_35 rfl ?_
  refine V_iconst (v := nI 0) d_Df_clear_36 (by decide +kernel) ?_
  refine V_putf d_Df_clear_37 f_Df_18 p_Df_18 h1 rfl rfl rfl (fun G6 h1z ho6 => ?_)
  have h1 : G6 a = some (.inr (kDf, [.ref (a + 1), .ref (a + 2), .int (nI 0), .ref (a + 3), .int (nI (dNf D)), .ref (a + 4), .int (nI (dNm D))])) := h1z
  have h2 := (ho6 _ (by omega)).trans h2
  refine V_aload_n d_Df_clear_40 rfl ?_
  refine V_iconst (v := nI 0) d_Df_clear_41 (by decide +kernel) ?_
  refine V_putf d_Df_clear_42 f_Df_25 p_Df_25 h1 rfl rfl rfl (fun G7 h1z ho7 => ?_)
  have h1 : G7 a = some (.inr (kDf, [.ref (a + 1), .ref (a + 2), .int (nI 0), .ref (a + 3), .int (nI 0), .ref (a + 4), .int (nI (dNm D))])) := h1z
  have h2 := (ho7 _ (by omega)).trans h2
  refine V_aload_n d_Df_clear_45 rfl ?_
  refine V_iconst (v := nI 0) d_Df_clear_46 (by decide +kernel) ?_
  refine V_putf d_Df_clear_47 f_Df_34 p_Df_34 h1 rfl rfl rfl (fun G8 h1z ho8 => ?_)
  have h1 : G8 a = some (.inr (kDf, [.ref (a + 1), .ref (a + 2), .int (nI 0), .ref (a + 3), .int (nI 0), .ref (a + 4), .int (nI 0)])) := h1z
  have h2 := (ho8 _ (by omega)).trans h2
  have hE : ∀ q, q ≠ a → q ≠ a + 1 → G8 q = G q := fun q g1 g2 => by rw [ho8 q g1, ho7 q g1, ho6 q g1, ho5 q g2, ho4 q g2, ho3 q g2, ho2 q g2, ho1 q g2]
  refine V_return d_Df_clear_50 rfl (hQ G8 ⟨⟨by decide, by decide, by decide, fun j hj => absurd hj (Nat.not_lt_zero j)⟩, h1, ⟨_, h2, fun k hk => ?_⟩, ⟨f2, by rw [hE _ (by omega) (by omega)]; exact h3, fun k hk => absurd hk (Nat.not_lt_zero k)⟩, ⟨f3, by rw [hE _ (by omega) (by omega)]; exact h4, fun k hk => absurd hk (Nat.not_lt_zero k)⟩, ⟨f4, by rw [hE _ (by omega) (by omega)]; exact h5, h5'⟩, fun j hj => (h6 j hj).kept fun q g1 g2 => hE q (by omega) (by omega), fun j hj => absurd hj (Nat.not_lt_zero j)⟩ (fun q hq => hE q (by omega) (by omega)))
  match k, hk with
  | 0, _ => rfl
  | 1, _ => rfl
  | 2, _ => rfl
  | 3, _ => rfl
  | 4, _ => rfl
  | k + 5, h => exact absurd h (by omega)
set_option maxHeartbeats 1000000 in
theorem c_Df_addInterface {Γ : pmE} {G : pmG} {n : Nat} {Q : pmPost} {a : Nat} {D : Dfn} {x : Int32} (h : isDef G a D) (hF : dNi D = 3 → Q (some (.int (nI 0))) n G) (hQ : dNi D < 3 → ∀ G', isDef G' a (dAddI D x) → (∀ q, (q < a ∨ a + 17 ≤ q) → G' q = G q) → Q (some (.int (nI 1))) n G') : pV Γ m_Df_addInterface 0 [some (.ref a), some (.int x)] [] n G 0 0 Q := by
  obtain ⟨⟨hni, hnf, hnm, hln⟩, h1, ⟨f1, h2, h2'⟩, ⟨f2, h3, h3'⟩, ⟨f3, h4, h4'⟩, ⟨f4, h5, h5'⟩, h6, h7⟩ := h
  refine V_aload_n d_Df_addInterface_0 rfl ?_
  refine V_getf d_Df_addInterface_1 f_Df_18 h1 rfl ?_
  refine V_iconst (v := nI 3) d_Df_addInterface_4 (by decide +kernel) ?_
  refine V_icmp_ltN (tgt := 10) d_Df_addInterface_5 (by decide) (by omega) (by omega) (fun hb5 => ?_) (fun hb5 => ?_)
  · refine V_aload_n d_Df_addInterface_10 rfl ?_
    refine V_getf d_Df_addInterface_11 f_Df_15 h1 rfl ?_
    refine V_aload_n d_Df_addInterface_14 rfl ?_
    refine V_getf d_Df_addInterface_15 f_Df_18 h1 rfl ?_
    refine V_iload_n d_Df_addInterface_18 rfl ?_
    refine V_iastore (j := dNi D) d_Df_addInterface_19 rfl h3 rfl (by omega) (by omega) (fun G1 h3z ho1 => ?_)
    have h3 := h3z
    have h1 := (ho1 _ (by omega)).trans h1
    refine V_aload_n d_Df_addInterface_20 rfl ?_
    refine V_dup d_Df_addInterface_21 rfl ?_
    refine V_getf d_Df_addInterface_22 f_Df_18 h1 rfl ?_
    refine V_iconst (v := nI 1) d_Df_addInterface_25 (by decide +kernel) ?_
    refine V_iaddN d_Df_addInterface_26 ?_
    refine V_putf d_Df_addInterface_27 f_Df_18 p_Df_18 h1 rfl rfl rfl (fun G2 h1z ho2 => ?_)
    have h1 : G2 a = some (.inr (kDf, [.ref (a + 1), .ref (a + 2), .int (nI (dNi D + 1)), .ref (a + 3), .int (nI (dNf D)), .ref (a + 4), .int (nI (dNm D))])) := h1z
    have h3 := (ho2 _ (by omega)).trans h3
    refine V_iconst (v := nI 1) d_Df_addInterface_30 (by decide +kernel) ?_
    have hE : ∀ q, q ≠ a → q ≠ a + 2 → G2 q = G q := fun q g1 g2 => by rw [ho2 q g1, ho1 q g2]
    refine V_zreturn d_Df_addInterface_31 rfl (by first | exact pB_or _ | exact Or.inl rfl | exact Or.inr rfl) (hQ (by omega) G2 ⟨⟨by show dNi D + 1 ≤ 3; omega, hnf, hnm, hln⟩, h1, ⟨f1, by rw [hE _ (by omega) (by omega)]; exact h2, h2'⟩, ⟨_, h3, fun k hk => ?_⟩, ⟨f3, by rw [hE _ (by omega) (by omega)]; exact h4, h4'⟩, ⟨f4, by rw [hE _ (by omega) (by omega)]; exact h5, h5'⟩, fun j hj => (h6 j hj).kept fun q g1 g2 => hE q (by omega) (by omega), fun j hj => (h7 j hj).kept fun q g1 g2 => hE q (by have := hj; omega) (by omega)⟩ (fun q hq => hE q (by omega) (by omega)))
    show upd f2 (dNi D) x k = upd (dI D) (dNi D) x k
    by_cases g : k = dNi D
    · rw [g, pk_us, pk_us]
    · rw [pk_un g, pk_un g]; exact h3' k (by have : k < dNi D + 1 := hk; omega)
  · refine V_iconst (v := nI 0) d_Df_addInterface_8 (by decide +kernel) ?_
    exact V_zreturn d_Df_addInterface_9 rfl (by first | exact pB_or _ | exact Or.inl rfl | exact Or.inr rfl) (hF (by omega))
set_option maxHeartbeats 1000000 in
theorem c_Df_addField {Γ : pmE} {G : pmG} {n : Nat} {Q : pmPost} {a : Nat} {D : Dfn} {x y z : Int32} (h : isDef G a D) (hF : dNf D = 4 → Q (some (.int (nI 0))) n G) (hQ : dNf D < 4 → ∀ G', isDef G' a (dAddF D x y z) → (∀ q, (q < a ∨ a + 17 ≤ q) → G' q = G q) → Q (some (.int (nI 1))) n G') : pV Γ m_Df_addField 0 [some (.ref a), some (.int x), some (.int y), some (.int z)] [] n G 0 0 Q := by
  obtain ⟨⟨hni, hnf, hnm, hln⟩, h1, ⟨f1, h2, h2'⟩, ⟨f2, h3, h3'⟩, ⟨f3, h4, h4'⟩, ⟨f4, h5, h5'⟩, h6, h7⟩ := h
  refine V_aload_n d_Df_addField_0 rfl ?_
  refine V_getf d_Df_addField_1 f_Df_25 h1 rfl ?_
  refine V_iconst (v := nI 4) d_Df_addField_4 (by decide +kernel) ?_
  refine V_icmp_ltN (tgt := 10) d_Df_addField_5 (by decide) (by omega) (by omega) (fun hb5 => ?_) (fun hb5 => ?_)
  · refine V_aload_n d_Df_addField_10 rfl ?_
    refine V_getf d_Df_addField_11 f_Df_22 h1 rfl ?_
    refine V_aload_n d_Df_addField_14 rfl ?_
    refine V_getf d_Df_addField_15 f_Df_25 h1 rfl ?_
    refine V_iconst (v := nI 3) d_Df_addField_18 (by decide +kernel) ?_
    refine V_imulN d_Df_addField_19 ?_
    refine V_iload_n d_Df_addField_20 rfl ?_
    refine V_iastore (j := (dNf D) * 3) d_Df_addField_21 rfl h4 rfl (by omega) (by omega) (fun G1 h4z ho1 => ?_)
    have h4 := h4z
    have h1 := (ho1 _ (by omega)).trans h1
    refine V_aload_n d_Df_addField_22 rfl ?_
    refine V_getf d_Df_addField_23 f_Df_22 h1 rfl ?_
    refine V_aload_n d_Df_addField_26 rfl ?_
    refine V_getf d_Df_addField_27 f_Df_25 h1 rfl ?_
    refine V_iconst (v := nI 3) d_Df_addField_30 (by decide +kernel) ?_
    refine V_imulN d_Df_addField_31 ?_
    refine V_iconst (v := nI 1) d_Df_addField_32 (by decide +kernel) ?_
    refine V_iaddN d_Df_addField_33 ?_
    refine V_iload_n d_Df_addField_34 rfl ?_
    refine V_iastore (j := (dNf D) * 3 + 1) d_Df_addField_35 rfl h4 rfl (by omega) (by omega) (fun G2 h4z ho2 => ?_)
    have h4 := h4z
    have h1 := (ho2 _ (by omega)).trans h1
    refine V_aload_n d_Df_addField_36 rfl ?_
    refine V_getf d_Df_addField_37 f_Df_22 h1 rfl ?_
    refine V_aload_n d_Df_addField_40 rfl ?_
    refine V_getf d_Df_addField_41 f_Df_25 h1 rfl ?_
    refine V_iconst (v := nI 3) d_Df_addField_44 (by decide +kernel) ?_
    refine V_imulN d_Df_addField_45 ?_
    refine V_iconst (v := nI 2) d_Df_addField_46 (by decide +kernel) ?_
    refine V_iaddN d_Df_addField_47 ?_
    refine V_iload_n d_Df_addField_48 rfl ?_
    refine V_iastore (j := (dNf D) * 3 + 2) d_Df_addField_49 rfl h4 rfl (by omega) (by omega) (fun G3 h4z ho3 => ?_)
    have h4 := h4z
    have h1 := (ho3 _ (by omega)).trans h1
    refine V_aload_n d_Df_addField_50 rfl ?_
    refine V_dup d_Df_addField_51 rfl ?_
    refine V_getf d_Df_addField_52 f_Df_25 h1 rfl ?_
    refine V_iconst (v := nI 1) d_Df_addField_55 (by decide +kernel) ?_
    refine V_iaddN d_Df_addField_56 ?_
    refine V_putf d_Df_addField_57 f_Df_25 p_Df_25 h1 rfl rfl rfl (fun G4 h1z ho4 => ?_)
    have h1 : G4 a = some (.inr (kDf, [.ref (a + 1), .ref (a + 2), .int (nI (dNi D)), .ref (a + 3), .int (nI (dNf D + 1)), .ref (a + 4), .int (nI (dNm D))])) := h1z
    have h4 := (ho4 _ (by omega)).trans h4
    refine V_iconst (v := nI 1) d_Df_addField_60 (by decide +kernel) ?_
    have hE : ∀ q, q ≠ a → q ≠ a + 3 → G4 q = G q := fun q g1 g2 => by rw [ho4 q g1, ho3 q g2, ho2 q g2, ho1 q g2]
    refine V_zreturn d_Df_addField_61 rfl (by first | exact pB_or _ | exact Or.inl rfl | exact Or.inr rfl) (hQ (by omega) G4 ⟨⟨hni, by show dNf D + 1 ≤ 4; omega, hnm, hln⟩, h1, ⟨f1, by rw [hE _ (by omega) (by omega)]; exact h2, h2'⟩, ⟨f2, by rw [hE _ (by omega) (by omega)]; exact h3, h3'⟩, ⟨_, h4, fun k hk => ?_⟩, ⟨f4, by rw [hE _ (by omega) (by omega)]; exact h5, h5'⟩, fun j hj => (h6 j hj).kept fun q g1 g2 => hE q (by omega) (by omega), fun j hj => (h7 j hj).kept fun q g1 g2 => hE q (by have := hj; omega) (by omega)⟩ (fun q hq => hE q (by omega) (by omega)))
    have hk' : k < 3 * (dNf D + 1) := hk
    show upd (upd (upd f3 (dNf D * 3) x) (dNf D * 3 + 1) y) (dNf D * 3 + 2) z k = upd (upd (upd (dF D) (dNf D * 3) x) (dNf D * 3 + 1) y) (dNf D * 3 + 2) z k
    simp only [upd]
    by_cases g3 : k = dNf D * 3 + 2
    · simp [g3]
    · by_cases g2 : k = dNf D * 3 + 1
      · simp [g2]
      · by_cases g1 : k = dNf D * 3
        · simp [g1]
        · simp [g1, g2, g3]; exact h4' k (by omega)
  · refine V_iconst (v := nI 0) d_Df_addField_8 (by decide +kernel) ?_
    exact V_zreturn d_Df_addField_9 rfl (by first | exact pB_or _ | exact Or.inl rfl | exact Or.inr rfl) (hF (by omega))
set_option maxHeartbeats 1000000 in
theorem c_Df_addMethod {Γ : pmE} {G : pmG} {n : Nat} {Q : pmPost} {a : Nat} {D : Dfn} {x y : Int32} (h : isDef G a D) (hF : dNm D = 4 → Q (some (.int (nI 0))) n G) (hQ : dNm D < 4 → ∀ G', isDef G' a (dAddM D x y) → (∀ q, (q < a ∨ a + 17 ≤ q) → G' q = G q) → Q (some (.int (nI 1))) n G') : pV Γ m_Df_addMethod 0 [some (.ref a), some (.int x), some (.int y), none] [] n G 0 0 Q := by
  obtain ⟨⟨hni, hnf, hnm, hln⟩, h1, ⟨f1, h2, h2'⟩, ⟨f2, h3, h3'⟩, ⟨f3, h4, h4'⟩, ⟨f4, h5, h5'⟩, h6, h7⟩ := h
  have h5k := h5
  refine V_aload_n d_Df_addMethod_0 rfl ?_
  refine V_getf d_Df_addMethod_1 f_Df_34 h1 rfl ?_
  refine V_iconst (v := nI 4) d_Df_addMethod_4 (by decide +kernel) ?_
  refine V_icmp_ltN (tgt := 10) d_Df_addMethod_5 (by decide) (by omega) (by omega) (fun hb5 => ?_) (fun hb5 => ?_)
  · refine V_aload_n d_Df_addMethod_10 rfl ?_
    refine V_getf d_Df_addMethod_11 f_Df_30 h1 rfl ?_
    refine V_aload_n d_Df_addMethod_14 rfl ?_
    refine V_getf d_Df_addMethod_15 f_Df_34 h1 rfl ?_
    refine V_aaload (j := dNm D) d_Df_addMethod_18 rfl h5 rfl (by omega) (by omega) ?_
    rw [h5' (dNm D) (by omega)]
    show pV Γ _ _ _ (.ref (a + 5 + 3 * dNm D) :: _) _ _ _ _ _
    obtain ⟨nm, fl, len, c, hm, hc⟩ := h6 (dNm D) (by omega)
    refine V_astore_n d_Df_addMethod_19 (Nat.le_of_ble_eq_true rfl) ?_
    show pV Γ _ _ [some (.ref a), some (.int x), some (.int y), some (.ref (a + 5 + 3 * dNm D))] _ _ _ _ _ _
    refine V_aload_n d_Df_addMethod_20 rfl ?_
    refine V_iload_n d_Df_addMethod_21 rfl ?_
    refine V_putf d_Df_addMethod_22 f_Df_51 p_Df_51 hm rfl rfl rfl (fun G1 hmz ho1 => ?_)
    have hm : G1 (a + 5 + 3 * dNm D) = some (.inr (kMt, [.int x, .int fl, .ref (a + 5 + 3 * dNm D + 1)])) := hmz
    have h1 := (ho1 _ (by omega)).trans h1
    have h5 := (ho1 _ (by omega)).trans h5
    have hc := hc.kept (fun q g1 g2 => ho1 q (by omega))
    refine V_aload_n d_Df_addMethod_25 rfl ?_
    refine V_iload_n d_Df_addMethod_26 rfl ?_
    refine V_putf d_Df_addMethod_27 f_Df_54 p_Df_54 hm rfl rfl rfl (fun G2 hmz ho2 => ?_)
    have hm : G2 (a + 5 + 3 * dNm D) = some (.inr (kMt, [.int x, .int y, .ref (a + 5 + 3 * dNm D + 1)])) := hmz
    have h1 := (ho2 _ (by omega)).trans h1
    have h5 := (ho2 _ (by omega)).trans h5
    have hc := hc.kept (fun q g1 g2 => ho2 q (by omega))
    refine V_aload_n d_Df_addMethod_30 rfl ?_
    refine V_getf d_Df_addMethod_31 f_Df_57 hm rfl ?_
    refine V_callV (As := []) (rest := []) (lo' := [some (.ref (a + 5 + 3 * dNm D + 1))]) (bc1 := 0) (bs1 := 0) (bc' := 0) (bs' := 0) d_Df_addMethod_34 k_Df_addMethod_61 hc.2.1 rfl rfl rfl rfl (by rfl) (by rfl) ?_
    refine c_Cd_clear hc (fun G3 hc ho3 => ?_)
    have h1 := (ho3 _ (by omega)).trans h1
    have h5 := (ho3 _ (by omega)).trans h5
    have hm := (ho3 _ (by omega)).trans hm
    show pV Γ m_Df_addMethod 37 [some (.ref a), some (.int x), some (.int y), some (.ref (a + 5 + 3 * dNm D))] [] _ G3 0 0 Q
    refine V_aload_n d_Df_addMethod_37 rfl ?_
    refine V_dup d_Df_addMethod_38 rfl ?_
    refine V_getf d_Df_addMethod_39 f_Df_34 h1 rfl ?_
    refine V_iconst (v := nI 1) d_Df_addMethod_42 (by decide +kernel) ?_
    refine V_iaddN d_Df_addMethod_43 ?_
    refine V_putf d_Df_addMethod_44 f_Df_34 p_Df_34 h1 rfl rfl rfl (fun G4 h1z ho4 => ?_)
    have h1 : G4 a = some (.inr (kDf, [.ref (a + 1), .ref (a + 2), .int (nI (dNi D)), .ref (a + 3), .int (nI (dNf D)), .ref (a + 4), .int (nI (dNm D + 1))])) := h1z
    have h5 := (ho4 _ (by omega)).trans h5
    have hm := (ho4 _ (by omega)).trans hm
    have hc := hc.kept (fun q g1 g2 => ho4 q (by omega))
    refine V_iconst (v := nI 1) d_Df_addMethod_47 (by decide +kernel) ?_
    have hE : ∀ q, (q ≠ a ∧ (q < a + 5 + 3 * dNm D ∨ a + 5 + 3 * dNm D + 3 ≤ q)) → G4 q = G q := fun q g => by rw [ho4 q (by omega), ho3 q (by omega), ho2 q (by omega), ho1 q (by omega)]
    refine V_zreturn d_Df_addMethod_48 rfl (by first | exact pB_or _ | exact Or.inl rfl | exact Or.inr rfl) (hQ (by omega) G4 ⟨⟨hni, hnf, by show dNm D + 1 ≤ 4; omega, fun j hj => ?_⟩, h1, ⟨f1, by rw [hE _ (by omega)]; exact h2, h2'⟩, ⟨f2, by rw [hE _ (by omega)]; exact h3, h3'⟩, ⟨f3, by rw [hE _ (by omega)]; exact h4, h4'⟩, ⟨f4, by rw [hE _ (by omega)]; exact h5k, h5'⟩, fun j hj => ?_, fun j hj => ?_⟩ (fun q hq => hE q (by omega)))
    · have hj' : j < dNm D + 1 := hj
      show va_up (dL D) (dNm D) 0 j ≤ 6
      by_cases g : j = dNm D
      · rw [g, va_up_self]; omega
      · rw [va_up_ne _ _ g]; exact hln j (by omega)
    · by_cases g : j = dNm D
      · subst g; exact ⟨_, _, _, _, hm, hc⟩
      · exact (h6 j hj).kept fun q g1 g2 => hE q (by omega)
    · have hj' : j < dNm D + 1 := hj
      show isMth G4 _ (upd (dN D) (dNm D) x j) (upd (dG D) (dNm D) y j) (va_up (dL D) (dNm D) 0 j) (dC D j)
      by_cases g : j = dNm D
      · rw [g, pk_us, pk_us, va_up_self]; exact ⟨hm, hc.congr (fun k hk => absurd hk (by omega))⟩
      · rw [pk_un g, pk_un g, va_up_ne _ _ g]; exact (h7 j (by omega)).kept fun q g1 g2 => hE q (by omega)
  · refine V_iconst (v := nI 0) d_Df_addMethod_8 (by decide +kernel) ?_
    exact V_zreturn d_Df_addMethod_9 rfl (by first | exact pB_or _ | exact Or.inl rfl | exact Or.inr rfl) (hF (by omega))
set_option maxHeartbeats 1000000 in
theorem c_Df_init {Γ : pmE} {G : pmG} {n : Nat} {Q : pmPost} (h1 : G n = some (.inr (kDf, [.null, .null, .int 0, .null, .int 0, .null, .int 0]))) (hQ : ∀ G', isDef G' n dBlk → (∀ q, (q < n ∨ n + 17 ≤ q) → G' q = G q) → Q none (n + 17) G') : pV Γ m_Df_init 0 [some (.ref n), none] [] (n + 1) G 16 116 Q := by
  refine V_aload_n d_Df_init_0 rfl ?_
  refine V_objInit d_Df_init_1 w_28 w_21 w_22 (by decide +kernel) rfl ?_
  refine V_aload_n d_Df_init_4 rfl ?_
  refine V_iconst (v := nI 5) d_Df_init_5 (by decide +kernel) ?_
  refine V_newi (N := 5) d_Df_init_6 rfl (by decide) w_51 rfl (by rfl) (by rfl) (fun G1 hn1 ho1 => ?_)
  have hn1 : G1 (n + 1) = some (.inl (0, 5, .inl (fun _ => 0))) := hn1
  show pV Γ _ _ _ (.ref (n + 1) :: _) (n + 2) _ _ _ _
  have h1 := (ho1 _ (by omega)).trans h1
  refine V_putF d_Df_init_8 p_Df_9 rfl h1 rfl rfl rfl (fun G2 h1z ho2 => ?_)
  have h1 : G2 n = some (.inr (kDf, [.ref (n + 1), .null, .int 0, .null, .int 0, .null, .int 0])) := h1z
  have hn1 := (ho2 _ (by omega)).trans hn1
  refine V_aload_n d_Df_init_11 rfl ?_
  refine V_iconst (v := nI 3) d_Df_init_12 (by decide +kernel) ?_
  refine V_newi (N := 3) d_Df_init_13 rfl (by decide) w_51 rfl (by rfl) (by rfl) (fun G3 hn3 ho3 => ?_)
  have hn3 : G3 (n + 2) = some (.inl (0, 3, .inl (fun _ => 0))) := hn3
  show pV Γ _ _ _ (.ref (n + 2) :: _) (n + 3) _ _ _ _
  have h1 := (ho3 _ (by omega)).trans h1
  have hn1 := (ho3 _ (by omega)).trans hn1
  refine V_putF d_Df_init_15 p_Df_15 rfl h1 rfl rfl rfl (fun G4 h1z ho4 => ?_)
  have h1 : G4 n = some (.inr (kDf, [.ref (n + 1), .ref (n + 2), .int 0, .null, .int 0, .null, .int 0])) := h1z
  have hn1 := (ho4 _ (by omega)).trans hn1
  have hn3 := (ho4 _ (by omega)).trans hn3
  refine V_aload_n d_Df_init_18 rfl ?_
  refine V_iconst (v := nI 0) d_Df_init_19 (by decide +kernel) ?_
  refine V_putf d_Df_init_20 f_Df_18 p_Df_18 h1 rfl rfl rfl (fun G5 h1z ho5 => ?_)
  have h1 : G5 n = some (.inr (kDf, [.ref (n + 1), .ref (n + 2), .int (nI 0), .null, .int 0, .null, .int 0])) := h1z
  have hn1 := (ho5 _ (by omega)).trans hn1
  have hn3 := (ho5 _ (by omega)).trans hn3
  refine V_aload_n d_Df_init_23 rfl ?_
  refine V_bipush (v := nI 12) d_Df_init_24 (by decide +kernel) ?_
  refine V_newi (N := 12) d_Df_init_26 rfl (by decide) w_51 rfl (by rfl) (by rfl) (fun G6 hn6 ho6 => ?_)
  have hn6 : G6 (n + 3) = some (.inl (0, 12, .inl (fun _ => 0))) := hn6
  show pV Γ _ _ _ (.ref (n + 3) :: _) (n + 4) _ _ _ _
  have h1 := (ho6 _ (by omega)).trans h1
  have hn1 := (ho6 _ (by omega)).trans hn1
  have hn3 := (ho6 _ (by omega)).trans hn3
  refine V_putF d_Df_init_28 p_Df_22 rfl h1 rfl rfl rfl (fun G7 h1z ho7 => ?_)
  have h1 : G7 n = some (.inr (kDf, [.ref (n + 1), .ref (n + 2), .int (nI 0), .ref (n + 3), .int 0, .null, .int 0])) := h1z
  have hn1 := (ho7 _ (by omega)).trans hn1
  have hn3 := (ho7 _ (by omega)).trans hn3
  have hn6 := (ho7 _ (by omega)).trans hn6
  refine V_aload_n d_Df_init_31 rfl ?_
  refine V_iconst (v := nI 0) d_Df_init_32 (by decide +kernel) ?_
  refine V_putf d_Df_init_33 f_Df_25 p_Df_25 h1 rfl rfl rfl (fun G8 h1z ho8 => ?_)
  have h1 : G8 n = some (.inr (kDf, [.ref (n + 1), .ref (n + 2), .int (nI 0), .ref (n + 3), .int (nI 0), .null, .int 0])) := h1z
  have hn1 := (ho8 _ (by omega)).trans hn1
  have hn3 := (ho8 _ (by omega)).trans hn3
  have hn6 := (ho8 _ (by omega)).trans hn6
  refine V_aload_n d_Df_init_36 rfl ?_
  refine V_iconst (v := nI 4) d_Df_init_37 (by decide +kernel) ?_
  refine V_anew (k := 10) (N := 4) d_Df_init_38 rfl (by decide) w_29 w_30 rfl (by rfl) (by rfl) (fun G9 hn9 ho9 => ?_)
  have hn9 : G9 (n + 4) = some (.inl (10, 4, .inr (.inr (.inr (.inr (fun _ => none)))))) := hn9
  show pV Γ _ _ _ (.ref (n + 4) :: _) (n + 5) _ _ _ _
  have h1 := (ho9 _ (by omega)).trans h1
  have hn1 := (ho9 _ (by omega)).trans hn1
  have hn3 := (ho9 _ (by omega)).trans hn3
  have hn6 := (ho9 _ (by omega)).trans hn6
  refine V_putF d_Df_init_41 p_Df_30 rfl h1 rfl rfl rfl (fun G10 h1z ho10 => ?_)
  have h1 : G10 n = some (.inr (kDf, [.ref (n + 1), .ref (n + 2), .int (nI 0), .ref (n + 3), .int (nI 0), .ref (n + 4), .int 0])) := h1z
  have hn1 := (ho10 _ (by omega)).trans hn1
  have hn3 := (ho10 _ (by omega)).trans hn3
  have hn6 := (ho10 _ (by omega)).trans hn6
  have hn9 := (ho10 _ (by omega)).trans hn9
  refine V_aload_n d_Df_init_44 rfl ?_
  refine V_iconst (v := nI 0) d_Df_init_45 (by decide +kernel) ?_
  refine V_putf d_Df_init_46 f_Df_34 p_Df_34 h1 rfl rfl rfl (fun G11 h1z ho11 => ?_)
  have h1 : G11 n = some (.inr (kDf, [.ref (n + 1), .ref (n + 2), .int (nI 0), .ref (n + 3), .int (nI 0), .ref (n + 4), .int (nI 0)])) := h1z
  have hn1 := (ho11 _ (by omega)).trans hn1
  have hn3 := (ho11 _ (by omega)).trans hn3
  have hn6 := (ho11 _ (by omega)).trans hn6
  have hn9 := (ho11 _ (by omega)).trans hn9
  refine V_iconst (v := nI 0) d_Df_init_49 (by decide +kernel) ?_
  refine V_istore_n d_Df_init_50 (Nat.le_of_ble_eq_true rfl) ?_
  show pV Γ _ _ [some (.ref n), some (.int (nI 0))] _ _ _ _ _ _
  refine V_iload_n d_Df_init_51 rfl ?_
  refine V_iconst (v := nI 4) d_Df_init_52 (by decide +kernel) ?_
  refine V_icmp_geN (tgt := 75) d_Df_init_53 (by decide) (by omega) (by omega) (fun h => absurd h (by omega)) (fun _ => ?_)
  refine V_aload_n d_Df_init_56 rfl ?_
  refine V_getf d_Df_init_57 f_Df_30 h1 rfl ?_
  refine V_iload_n d_Df_init_60 rfl ?_
  refine V_new d_Df_init_61 n_Df_28 (by rfl) (by rfl) (fun G12 hn12 ho12 => ?_)
  have hn12 : G12 (n + 5) = some (.inr (kMt, [.int 0, .int 0, .null])) := hn12
  show pV Γ _ _ _ (.ref (n + 5) :: _) (n + 6) _ _ _ _
  have h1 := (ho12 _ (by omega)).trans h1
  have hn1 := (ho12 _ (by omega)).trans hn1
  have hn3 := (ho12 _ (by omega)).trans hn3
  have hn6 := (ho12 _ (by omega)).trans hn6
  have hn9 := (ho12 _ (by omega)).trans hn9
  refine V_dup d_Df_init_64 rfl ?_
  refine V_callI (As := []) (rest := [.ref (n + 5), .int (nI 0), .ref (n + 4)]) (lo' := [some (.ref (n + 5))]) (bc1 := 2) (bs1 := 20) (bc' := 9) (bs' := 69) d_Df_init_65 k_Df_init_37 rfl rfl rfl rfl (by rfl) (by rfl) ?_
  refine c_Mt_init hn12 (fun G13 hm0 ho13 => ?_)
  have h1 := (ho13 _ (by omega)).trans h1
  have hn1 := (ho13 _ (by omega)).trans hn1
  have hn3 := (ho13 _ (by omega)).trans hn3
  have hn6 := (ho13 _ (by omega)).trans hn6
  have hn9 := (ho13 _ (by omega)).trans hn9
  show pV Γ m_Df_init 68 [some (.ref n), some (.int (nI 0))] [.ref (n + 5), .int (nI 0), .ref (n + 4)] (n + 8) G13 9 69 Q
  refine V_aastore (ci := 8) (j := 0) d_Df_init_68 rfl rfl hn9 hm0.1 rfl (by omega) (by omega) (fun G14 hn9z ho14 => ?_)
  have hn9 := hn9z
  have h1 := (ho14 _ (by omega)).trans h1
  have hn1 := (ho14 _ (by omega)).trans hn1
  have hn3 := (ho14 _ (by omega)).trans hn3
  have hn6 := (ho14 _ (by omega)).trans hn6
  have hm0 := hm0.kept (fun q g1 g2 => ho14 q (by omega))
  refine V_iincN d_Df_init_69 rfl ?_
  show pV Γ _ _ [some (.ref n), some (.int (nI 1))] _ _ _ _ _ _
  refine V_goto (tgt := 51) d_Df_init_72 (by decide) ?_
  refine V_iload_n d_Df_init_51 rfl ?_
  refine V_iconst (v := nI 4) d_Df_init_52 (by decide +kernel) ?_
  refine V_icmp_geN (tgt := 75) d_Df_init_53 (by decide) (by omega) (by omega) (fun h => absurd h (by omega)) (fun _ => ?_)
  refine V_aload_n d_Df_init_56 rfl ?_
  refine V_getf d_Df_init_57 f_Df_30 h1 rfl ?_
  refine V_iload_n d_Df_init_60 rfl ?_
  refine V_new d_Df_init_61 n_Df_28 (by rfl) (by rfl) (fun G15 hn15 ho15 => ?_)
  have hn15 : G15 (n + 8) = some (.inr (kMt, [.int 0, .int 0, .null])) := hn15
  show pV Γ _ _ _ (.ref (n + 8) :: _) (n + 9) _ _ _ _
  have h1 := (ho15 _ (by omega)).trans h1
  have hn1 := (ho15 _ (by omega)).trans hn1
  have hn3 := (ho15 _ (by omega)).trans hn3
  have hn6 := (ho15 _ (by omega)).trans hn6
  have hn9 := (ho15 _ (by omega)).trans hn9
  have hm0 := hm0.kept (fun q g1 g2 => ho15 q (by omega))
  refine V_dup d_Df_init_64 rfl ?_
  refine V_callI (As := []) (rest := [.ref (n + 8), .int (nI 1), .ref (n + 4)]) (lo' := [some (.ref (n + 8))]) (bc1 := 2) (bs1 := 20) (bc' := 6) (bs' := 46) d_Df_init_65 k_Df_init_37 rfl rfl rfl rfl (by rfl) (by rfl) ?_
  refine c_Mt_init hn15 (fun G16 hm1 ho16 => ?_)
  have h1 := (ho16 _ (by omega)).trans h1
  have hn1 := (ho16 _ (by omega)).trans hn1
  have hn3 := (ho16 _ (by omega)).trans hn3
  have hn6 := (ho16 _ (by omega)).trans hn6
  have hn9 := (ho16 _ (by omega)).trans hn9
  have hm0 := hm0.kept (fun q g1 g2 => ho16 q (by omega))
  show pV Γ m_Df_init 68 [some (.ref n), some (.int (nI 1))] [.ref (n + 8), .int (nI 1), .ref (n + 4)] (n + 11) G16 6 46 Q
  refine V_aastore (ci := 8) (j := 1) d_Df_init_68 rfl rfl hn9 hm1.1 rfl (by omega) (by omega) (fun G17 hn9z ho17 => ?_)
  have hn9 := hn9z
  have h1 := (ho17 _ (by omega)).trans h1
  have hn1 := (ho17 _ (by omega)).trans hn1
  have hn3 := (ho17 _ (by omega)).trans hn3
  have hn6 := (ho17 _ (by omega)).trans hn6
  have hm0 := hm0.kept (fun q g1 g2 => ho17 q (by omega))
  have hm1 := hm1.kept (fun q g1 g2 => ho17 q (by omega))
  refine V_iincN d_Df_init_69 rfl ?_
  show pV Γ _ _ [some (.ref n), some (.int (nI 2))] _ _ _ _ _ _
  refine V_goto (tgt := 51) d_Df_init_72 (by decide) ?_
  refine V_iload_n d_Df_init_51 rfl ?_
  refine V_iconst (v := nI 4) d_Df_init_52 (by decide +kernel) ?_
  refine V_icmp_geN (tgt := 75) d_Df_init_53 (by decide) (by omega) (by omega) (fun h => absurd h (by omega)) (fun _ => ?_)
  refine V_aload_n d_Df_init_56 rfl ?_
  refine V_getf d_Df_init_57 f_Df_30 h1 rfl ?_
  refine V_iload_n d_Df_init_60 rfl ?_
  refine V_new d_Df_init_61 n_Df_28 (by rfl) (by rfl) (fun G18 hn18 ho18 => ?_)
  have hn18 : G18 (n + 11) = some (.inr (kMt, [.int 0, .int 0, .null])) := hn18
  show pV Γ _ _ _ (.ref (n + 11) :: _) (n + 12) _ _ _ _
  have h1 := (ho18 _ (by omega)).trans h1
  have hn1 := (ho18 _ (by omega)).trans hn1
  have hn3 := (ho18 _ (by omega)).trans hn3
  have hn6 := (ho18 _ (by omega)).trans hn6
  have hn9 := (ho18 _ (by omega)).trans hn9
  have hm0 := hm0.kept (fun q g1 g2 => ho18 q (by omega))
  have hm1 := hm1.kept (fun q g1 g2 => ho18 q (by omega))
  refine V_dup d_Df_init_64 rfl ?_
  refine V_callI (As := []) (rest := [.ref (n + 11), .int (nI 2), .ref (n + 4)]) (lo' := [some (.ref (n + 11))]) (bc1 := 2) (bs1 := 20) (bc' := 3) (bs' := 23) d_Df_init_65 k_Df_init_37 rfl rfl rfl rfl (by rfl) (by rfl) ?_
  refine c_Mt_init hn18 (fun G19 hm2 ho19 => ?_)
  have h1 := (ho19 _ (by omega)).trans h1
  have hn1 := (ho19 _ (by omega)).trans hn1
  have hn3 := (ho19 _ (by omega)).trans hn3
  have hn6 := (ho19 _ (by omega)).trans hn6
  have hn9 := (ho19 _ (by omega)).trans hn9
  have hm0 := hm0.kept (fun q g1 g2 => ho19 q (by omega))
  have hm1 := hm1.kept (fun q g1 g2 => ho19 q (by omega))
  show pV Γ m_Df_init 68 [some (.ref n), some (.int (nI 2))] [.ref (n + 11), .int (nI 2), .ref (n + 4)] (n + 14) G19 3 23 Q
  refine V_aastore (ci := 8) (j := 2) d_Df_init_68 rfl rfl hn9 hm2.1 rfl (by omega) (by omega) (fun G20 hn9z ho20 => ?_)
  have hn9 := hn9z
  have h1 := (ho20 _ (by omega)).trans h1
  have hn1 := (ho20 _ (by omega)).trans hn1
  have hn3 := (ho20 _ (by omega)).trans hn3
  have hn6 := (ho20 _ (by omega)).trans hn6
  have hm0 := hm0.kept (fun q g1 g2 => ho20 q (by omega))
  have hm1 := hm1.kept (fun q g1 g2 => ho20 q (by omega))
  have hm2 := hm2.kept (fun q g1 g2 => ho20 q (by omega))
  refine V_iincN d_Df_init_69 rfl ?_
  show pV Γ _ _ [some (.ref n), some (.int (nI 3))] _ _ _ _ _ _
  refine V_goto (tgt := 51) d_Df_init_72 (by decide) ?_
  refine V_iload_n d_Df_init_51 rfl ?_
  refine V_iconst (v := nI 4) d_Df_init_52 (by decide +kernel) ?_
  refine V_icmp_geN (tgt := 75) d_Df_init_53 (by decide) (by omega) (by omega) (fun h => absurd h (by omega)) (fun _ => ?_)
  refine V_aload_n d_Df_init_56 rfl ?_
  refine V_getf d_Df_init_57 f_Df_30 h1 rfl ?_
  refine V_iload_n d_Df_init_60 rfl ?_
  refine V_new d_Df_init_61 n_Df_28 (by rfl) (by rfl) (fun G21 hn21 ho21 => ?_)
  have hn21 : G21 (n + 14) = some (.inr (kMt, [.int 0, .int 0, .null])) := hn21
  show pV Γ _ _ _ (.ref (n + 14) :: _) (n + 15) _ _ _ _
  have h1 := (ho21 _ (by omega)).trans h1
  have hn1 := (ho21 _ (by omega)).trans hn1
  have hn3 := (ho21 _ (by omega)).trans hn3
  have hn6 := (ho21 _ (by omega)).trans hn6
  have hn9 := (ho21 _ (by omega)).trans hn9
  have hm0 := hm0.kept (fun q g1 g2 => ho21 q (by omega))
  have hm1 := hm1.kept (fun q g1 g2 => ho21 q (by omega))
  have hm2 := hm2.kept (fun q g1 g2 => ho21 q (by omega))
  refine V_dup d_Df_init_64 rfl ?_
  refine V_callI (As := []) (rest := [.ref (n + 14), .int (nI 3), .ref (n + 4)]) (lo' := [some (.ref (n + 14))]) (bc1 := 2) (bs1 := 20) (bc' := 0) (bs' := 0) d_Df_init_65 k_Df_init_37 rfl rfl rfl rfl (by rfl) (by rfl) ?_
  refine c_Mt_init hn21 (fun G22 hm3 ho22 => ?_)
  have h1 := (ho22 _ (by omega)).trans h1
  have hn1 := (ho22 _ (by omega)).trans hn1
  have hn3 := (ho22 _ (by omega)).trans hn3
  have hn6 := (ho22 _ (by omega)).trans hn6
  have hn9 := (ho22 _ (by omega)).trans hn9
  have hm0 := hm0.kept (fun q g1 g2 => ho22 q (by omega))
  have hm1 := hm1.kept (fun q g1 g2 => ho22 q (by omega))
  have hm2 := hm2.kept (fun q g1 g2 => ho22 q (by omega))
  show pV Γ m_Df_init 68 [some (.ref n), some (.int (nI 3))] [.ref (n + 14), .int (nI 3), .ref (n + 4)] (n + 17) G22 0 0 Q
  refine V_aastore (ci := 8) (j := 3) d_Df_init_68 rfl rfl hn9 hm3.1 rfl (by omega) (by omega) (fun G23 hn9z ho23 => ?_)
  have hn9 := hn9z
  have h1 := (ho23 _ (by omega)).trans h1
  have hn1 := (ho23 _ (by omega)).trans hn1
  have hn3 := (ho23 _ (by omega)).trans hn3
  have hn6 := (ho23 _ (by omega)).trans hn6
  have hm0 := hm0.kept (fun q g1 g2 => ho23 q (by omega))
  have hm1 := hm1.kept (fun q g1 g2 => ho23 q (by omega))
  have hm2 := hm2.kept (fun q g1 g2 => ho23 q (by omega))
  have hm3 := hm3.kept (fun q g1 g2 => ho23 q (by omega))
  refine V_iincN d_Df_init_69 rfl ?_
  show pV Γ _ _ [some (.ref n), some (.int (nI 4))] _ _ _ _ _ _
  refine V_goto (tgt := 51) d_Df_init_72 (by decide) ?_
  refine V_iload_n d_Df_init_51 rfl ?_
  refine V_iconst (v := nI 4) d_Df_init_52 (by decide +kernel) ?_
  refine V_icmp_geN (tgt := 75) d_Df_init_53 (by decide) (by omega) (by omega) (fun _ => ?_) (fun h => absurd h (by omega))
  refine V_aload_n d_Df_init_75 rfl ?_
  have hD : isDef G23 n ((fun _ => 0), (0, fun _ => 0), (0, fun _ => 0), 0, fun _ => 0, fun _ => 0, fun _ => 0, fun _ _ => 0) := by
    refine ⟨⟨by decide, by decide, by decide, fun j hj => absurd hj (Nat.not_lt_zero j)⟩, h1, ⟨_, hn1, fun _ _ => rfl⟩, ⟨_, hn3, fun k hk => absurd hk (Nat.not_lt_zero k)⟩, ⟨_, hn6, fun k hk => absurd hk (Nat.not_lt_zero k)⟩, ⟨_, hn9, fun j hj => ?_⟩, fun j hj => ?_, fun j hj => absurd hj (Nat.not_lt_zero j)⟩
    · match j, hj with
      | 0, _ => rfl
      | 1, _ => rfl
      | 2, _ => rfl
      | 3, _ => rfl
      | k + 4, h => exact absurd h (by omega)
    · match j, hj with
      | 0, _ => exact ⟨_, _, _, _, hm0⟩
      | 1, _ => exact ⟨_, _, _, _, hm1⟩
      | 2, _ => exact ⟨_, _, _, _, hm2⟩
      | 3, _ => exact ⟨_, _, _, _, hm3⟩
      | k + 4, h => exact absurd h (by omega)
  have hE : ∀ q, (q < n ∨ n + 17 ≤ q) → G23 q = G q := fun q hq => by rw [ho23 q (by omega), ho22 q (by omega), ho21 q (by omega), ho20 q (by omega), ho19 q (by omega), ho18 q (by omega), ho17 q (by omega), ho16 q (by omega), ho15 q (by omega), ho14 q (by omega), ho13 q (by omega), ho12 q (by omega), ho11 q (by omega), ho10 q (by omega), ho9 q (by omega), ho8 q (by omega), ho7 q (by omega), ho6 q (by omega), ho5 q (by omega), ho4 q (by omega), ho3 q (by omega), ho2 q (by omega), ho1 q (by omega)]
  refine V_callV (As := []) (rest := []) (lo' := [some (.ref n)]) (bc1 := 0) (bs1 := 0) (bc' := 0) (bs' := 0) d_Df_init_76 k_Df_init_38 hD.2.1 rfl rfl rfl rfl (by rfl) (by rfl) ?_
  refine c_Df_clear hD (fun G99 hD' ho99 => ?_)
  show pV Γ m_Df_init 79 [some (.ref n), some (.int (nI 4))] [] _ G99 0 0 Q
  exact V_return d_Df_init_79 rfl (hQ G99 hD' (fun q hq => by rw [ho99 q hq, hE q hq]))
set_option maxHeartbeats 1000000 in
theorem c_Df_become {Γ : pmE} {G : pmG} {n : Nat} {Q : pmPost} {a b : Nat} {D E : Dfn} (h : isDef G a D) (j : isDef G b E) (hab : a + 17 ≤ b ∨ b + 17 ≤ a) (hQ : ∀ G', isDef G' a E → (∀ q, (q < a ∨ a + 17 ≤ q) → G' q = G q) → Q none n G') : pV Γ m_Df_become 0 [some (.ref a), some (.ref b), none] [] n G 0 0 Q := by
  have hj0 := j
  obtain ⟨⟨hni, hnf, hnm, hln⟩, h1, ⟨f1, h2, h2'⟩, ⟨f2, h3, h3'⟩, ⟨f3, h4, h4'⟩, ⟨f4, h5, h5'⟩, h6, h7⟩ := h
  obtain ⟨⟨jni, jnf, jnm, jln⟩, j1, ⟨g1, j2, j2'⟩, ⟨g2, j3, j3'⟩, ⟨g3, j4, j4'⟩, ⟨g4, j5, j5'⟩, j6, j7⟩ := j
  have loop : ∀ (d i : Nat), i ≤ dNm E → dNm E - i < d → ∀ G1 : pmG, isDfU G1 a E i → isDef G1 b E → (∀ q, (q < a ∨ a + 17 ≤ q) → G1 q = G q) → pV Γ m_Df_become 76 [some (.ref a), some (.ref b), some (.int (nI i))] [] n G1 0 0 Q := by
    intro d
    induction d with
    | zero => intro i _ hd; exact absurd hd (by omega)
    | succ d ih =>
      intro i hi hd G1 hU hJ ho
      have hU0 := hU
      have hJ0 := hJ
      obtain ⟨-, h1, ⟨f1, h2, h2'⟩, ⟨f2, h3, h3'⟩, ⟨f3, h4, h4'⟩, ⟨f4, h5, h5'⟩, h6, h7⟩ := hU
      obtain ⟨-, j1, ⟨g1, j2, j2'⟩, ⟨g2, j3, j3'⟩, ⟨g3, j4, j4'⟩, ⟨g4, j5, j5'⟩, j6, j7⟩ := hJ
      refine V_iload_n d_Df_become_76 rfl ?_
      refine V_aload_n d_Df_become_77 rfl ?_
      refine V_getf d_Df_become_78 f_Df_34 h1 rfl ?_
      refine V_icmp_geN (tgt := 105) d_Df_become_81 (by decide) (by omega) (by omega) (fun hb81 => ?_) (fun hb81 => ?_)
      · exact V_return d_Df_become_105 rfl (hQ G1 (by rw [show i = dNm E by omega] at hU0; exact hU0) ho)
      · refine V_aload_n d_Df_become_84 rfl ?_
        refine V_getf d_Df_become_85 f_Df_30 h1 rfl ?_
        refine V_iload_n d_Df_become_88 rfl ?_
        refine V_aaload (j := i) d_Df_become_89 rfl h5 rfl (by omega) (by omega) ?_
        rw [h5' i (by omega)]
        show pV Γ _ _ _ (.ref (a + 5 + 3 * i) :: _) _ _ _ _ _
        refine V_aload_n d_Df_become_90 rfl ?_
        refine V_getf d_Df_become_91 f_Df_30 j1 rfl ?_
        refine V_iload_n d_Df_become_94 rfl ?_
        refine V_aaload (j := i) d_Df_become_95 rfl j5 rfl (by omega) (by omega) ?_
        rw [j5' i (by omega)]
        show pV Γ _ _ _ (.ref (b + 5 + 3 * i) :: _) _ _ _ _ _
        obtain ⟨nm, fl, len, c, hm⟩ := h6 i (by omega)
        refine V_callV (As := [.ref (b + 5 + 3 * i)]) (rest := []) (lo' := [some (.ref (a + 5 + 3 * i)), some (.ref (b + 5 + 3 * i))]) (bc1 := 0) (bs1 := 0) (bc' := 0) (bs' := 0) d_Df_become_96 k_Df_become_47 hm.1 rfl rfl rfl rfl (by rfl) (by rfl) ?_
        refine c_Mt_become hm (j7 i (by omega)) (by omega) (fun G2 hm ho2 => ?_)
        show pV Γ m_Df_become 99 [some (.ref a), some (.ref b), some (.int (nI i))] [] _ G2 0 0 Q
        refine V_iincN d_Df_become_99 rfl ?_
        show pV Γ _ _ [some (.ref a), some (.ref b), some (.int (nI (i + 1)))] _ _ _ _ _ _
        refine V_goto (tgt := 76) d_Df_become_102 (by decide) ?_
        exact ih (i + 1) (by omega) (by omega) G2 (hU0.step (by omega) hm ho2) (hJ0.kept fun q g1 g2 => ho2 q (by omega)) (fun q hq => by rw [ho2 q (by omega), ho q hq])
  refine V_aload_n d_Df_become_0 rfl ?_
  refine V_getf d_Df_become_1 f_Df_9 j1 rfl ?_
  refine V_iconst (v := nI 0) d_Df_become_4 (by decide +kernel) ?_
  refine V_aload_n d_Df_become_5 rfl ?_
  refine V_getf d_Df_become_6 f_Df_9 h1 rfl ?_
  refine V_iconst (v := nI 0) d_Df_become_9 (by decide +kernel) ?_
  refine V_iconst (v := nI 5) d_Df_become_10 (by decide +kernel) ?_
  refine V_copyi (d := 0) (k := 5) d_Df_become_11 w_274 w_276 w_275 w_12 rfl (by decide +kernel) rfl j2 h2 rfl rfl rfl (by omega) (by omega) (by omega) (by omega) (fun G1 h2q ho1 => ?_)
  have h2 := h2q
  have h1 := (ho1 _ (by omega)).trans h1
  have h3 := (ho1 _ (by omega)).trans h3
  have h4 := (ho1 _ (by omega)).trans h4
  have h5 := (ho1 _ (by omega)).trans h5
  have j1 := (ho1 _ (by omega)).trans j1
  have j2 := (ho1 _ (by omega)).trans j2
  have j3 := (ho1 _ (by omega)).trans j3
  have j4 := (ho1 _ (by omega)).trans j4
  have j5 := (ho1 _ (by omega)).trans j5
  refine V_aload_n d_Df_become_14 rfl ?_
  refine V_aload_n d_Df_become_15 rfl ?_
  refine V_getf d_Df_become_16 f_Df_18 j1 rfl ?_
  refine V_putf d_Df_become_19 f_Df_18 p_Df_18 h1 rfl rfl rfl (fun G2 h1z ho2 => ?_)
  have h1 : G2 a = some (.inr (kDf, [.ref (a + 1), .ref (a + 2), .int (nI (dNi E)), .ref (a + 3), .int (nI (dNf D)), .ref (a + 4), .int (nI (dNm D))])) := h1z
  have h2 := (ho2 _ (by omega)).trans h2
  have h3 := (ho2 _ (by omega)).trans h3
  have h4 := (ho2 _ (by omega)).trans h4
  have h5 := (ho2 _ (by omega)).trans h5
  have j1 := (ho2 _ (by omega)).trans j1
  have j2 := (ho2 _ (by omega)).trans j2
  have j3 := (ho2 _ (by omega)).trans j3
  have j4 := (ho2 _ (by omega)).trans j4
  have j5 := (ho2 _ (by omega)).trans j5
  refine V_aload_n d_Df_become_22 rfl ?_
  refine V_getf d_Df_become_23 f_Df_15 j1 rfl ?_
  refine V_iconst (v := nI 0) d_Df_become_26 (by decide +kernel) ?_
  refine V_aload_n d_Df_become_27 rfl ?_
  refine V_getf d_Df_become_28 f_Df_15 h1 rfl ?_
  refine V_iconst (v := nI 0) d_Df_become_31 (by decide +kernel) ?_
  refine V_aload_n d_Df_become_32 rfl ?_
  refine V_getf d_Df_become_33 f_Df_18 h1 rfl ?_
  refine V_copyi (d := 0) (k := dNi E) d_Df_become_36 w_274 w_276 w_275 w_12 rfl (by decide +kernel) rfl j3 h3 rfl rfl rfl (by omega) (by omega) (by omega) (by omega) (fun G3 h3q ho3 => ?_)
  have h3 := h3q
  have h1 := (ho3 _ (by omega)).trans h1
  have h2 := (ho3 _ (by omega)).trans h2
  have h4 := (ho3 _ (by omega)).trans h4
  have h5 := (ho3 _ (by omega)).trans h5
  have j1 := (ho3 _ (by omega)).trans j1
  have j2 := (ho3 _ (by omega)).trans j2
  have j3 := (ho3 _ (by omega)).trans j3
  have j4 := (ho3 _ (by omega)).trans j4
  have j5 := (ho3 _ (by omega)).trans j5
  refine V_aload_n d_Df_become_39 rfl ?_
  refine V_aload_n d_Df_become_40 rfl ?_
  refine V_getf d_Df_become_41 f_Df_25 j1 rfl ?_
  refine V_putf d_Df_become_44 f_Df_25 p_Df_25 h1 rfl rfl rfl (fun G4 h1z ho4 => ?_)
  have h1 : G4 a = some (.inr (kDf, [.ref (a + 1), .ref (a + 2), .int (nI (dNi E)), .ref (a + 3), .int (nI (dNf E)), .ref (a + 4), .int (nI (dNm D))])) := h1z
  have h2 := (ho4 _ (by omega)).trans h2
  have h3 := (ho4 _ (by omega)).trans h3
  have h4 := (ho4 _ (by omega)).trans h4
  have h5 := (ho4 _ (by omega)).trans h5
  have j1 := (ho4 _ (by omega)).trans j1
  have j2 := (ho4 _ (by omega)).trans j2
  have j3 := (ho4 _ (by omega)).trans j3
  have j4 := (ho4 _ (by omega)).trans j4
  have j5 := (ho4 _ (by omega)).trans j5
  refine V_aload_n d_Df_become_47 rfl ?_
  refine V_getf d_Df_become_48 f_Df_22 j1 rfl ?_
  refine V_iconst (v := nI 0) d_Df_become_51 (by decide +kernel) ?_
  refine V_aload_n d_Df_become_52 rfl ?_
  refine V_getf d_Df_become_53 f_Df_22 h1 rfl ?_
  refine V_iconst (v := nI 0) d_Df_become_56 (by decide +kernel) ?_
  refine V_aload_n d_Df_become_57 rfl ?_
  refine V_getf d_Df_become_58 f_Df_25 h1 rfl ?_
  refine V_iconst (v := nI 3) d_Df_become_61 (by decide +kernel) ?_
  refine V_imulN d_Df_become_62 ?_
  refine V_copyi (d := 0) (k := dNf E * 3) d_Df_become_63 w_274 w_276 w_275 w_12 rfl (by decide +kernel) rfl j4 h4 rfl rfl rfl (by omega) (by omega) (by omega) (by omega) (fun G5 h4q ho5 => ?_)
  have h4 := h4q
  have h1 := (ho5 _ (by omega)).trans h1
  have h2 := (ho5 _ (by omega)).trans h2
  have h3 := (ho5 _ (by omega)).trans h3
  have h5 := (ho5 _ (by omega)).trans h5
  have j1 := (ho5 _ (by omega)).trans j1
  have j2 := (ho5 _ (by omega)).trans j2
  have j3 := (ho5 _ (by omega)).trans j3
  have j4 := (ho5 _ (by omega)).trans j4
  have j5 := (ho5 _ (by omega)).trans j5
  refine V_aload_n d_Df_become_66 rfl ?_
  refine V_aload_n d_Df_become_67 rfl ?_
  refine V_getf d_Df_become_68 f_Df_34 j1 rfl ?_
  refine V_putf d_Df_become_71 f_Df_34 p_Df_34 h1 rfl rfl rfl (fun G6 h1z ho6 => ?_)
  have h1 : G6 a = some (.inr (kDf, [.ref (a + 1), .ref (a + 2), .int (nI (dNi E)), .ref (a + 3), .int (nI (dNf E)), .ref (a + 4), .int (nI (dNm E))])) := h1z
  have h2 := (ho6 _ (by omega)).trans h2
  have h3 := (ho6 _ (by omega)).trans h3
  have h4 := (ho6 _ (by omega)).trans h4
  have h5 := (ho6 _ (by omega)).trans h5
  have j1 := (ho6 _ (by omega)).trans j1
  have j2 := (ho6 _ (by omega)).trans j2
  have j3 := (ho6 _ (by omega)).trans j3
  have j4 := (ho6 _ (by omega)).trans j4
  have j5 := (ho6 _ (by omega)).trans j5
  refine V_iconst (v := nI 0) d_Df_become_74 (by decide +kernel) ?_
  refine V_istore_n d_Df_become_75 (Nat.le_of_ble_eq_true rfl) ?_
  show pV Γ _ _ [some (.ref a), some (.ref b), some (.int (nI 0))] _ _ _ _ _ _
  have hE : ∀ q, q ≠ a → q ≠ a + 1 → q ≠ a + 2 → q ≠ a + 3 → G6 q = G q := fun q g1 g2 g3 g4 => by rw [ho6 q (by assumption), ho5 q (by assumption), ho4 q (by assumption), ho3 q (by assumption), ho2 q (by assumption), ho1 q (by assumption)]
  have hU : isDfU G6 a E 0 := by
    refine ⟨⟨jni, jnf, jnm, jln⟩, h1, ⟨_, h2, fun k hk => ?_⟩, ⟨_, h3, fun k hk => ?_⟩, ⟨_, h4, fun k hk => ?_⟩, ⟨f4, h5, h5'⟩, fun j hj => (h6 j hj).kept fun q g1 g2 => hE q (by omega) (by omega) (by omega) (by omega), fun j hj => absurd hj (Nat.not_lt_zero j)⟩
    · rw [pk_cpy_in (by omega) (by omega), Nat.zero_add, Nat.sub_zero]; exact j2' k hk
    · rw [pk_cpy_in (by omega) (by omega), Nat.zero_add, Nat.sub_zero]; exact j3' k hk
    · rw [pk_cpy_in (by omega) (by omega), Nat.zero_add, Nat.sub_zero]; exact j4' k (by omega)
  have hJ : isDef G6 b E := hj0.kept fun q g1 g2 => hE q (by omega) (by omega) (by omega) (by omega)
  exact loop (dNm E + 1) 0 (by omega) (by omega) G6 hU hJ (fun q hq => hE q (by omega) (by omega) (by omega) (by omega))
