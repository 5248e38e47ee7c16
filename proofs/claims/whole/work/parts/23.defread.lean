/-! Definition: what is only read. -/
def pDup (n : Nat) (f : Nat → Int32) : Prop := ∃ i j, j < i ∧ i < n ∧ f i = f j
set_option maxHeartbeats 1000000 in
theorem c_Df_findMethod {Γ : pmE} {G : pmG} {n : Nat} {Q : pmPost} {a : Nat} {D : Dfn} {x : Int32} (h : isDef G a D) (hN : (∀ j, j < dNm D → dN D j ≠ x) → Q (some .null) n G) (hS : ∀ j, j < dNm D → dN D j = x → (∀ i, i < j → dN D i ≠ x) → Q (some (.ref (a + 5 + 3 * j))) n G) : pV Γ m_Df_findMethod 0 [some (.ref a), some (.int x), none] [] n G 0 0 Q := by
  obtain ⟨⟨hni, hnf, hnm, hln⟩, h1, ⟨f1, h2, h2'⟩, ⟨f2, h3, h3'⟩, ⟨f3, h4, h4'⟩, ⟨f4, h5, h5'⟩, h6, h7⟩ := h
  have loop : ∀ (d i : Nat), i ≤ dNm D → dNm D - i < d → (∀ k, k < i → dN D k ≠ x) → pV Γ m_Df_findMethod 2 [some (.ref a), some (.int x), some (.int (nI i))] [] n G 0 0 Q := by
    intro d
    induction d with
    | zero => intro i _ hd; exact absurd hd (by omega)
    | succ d ih =>
      intro i hi hd hv
      refine V_iload_n d_Df_findMethod_2 rfl ?_
      refine V_aload_n d_Df_findMethod_3 rfl ?_
      refine V_getf d_Df_findMethod_4 f_Df_34 h1 rfl ?_
      refine V_icmp_geN (tgt := 36) d_Df_findMethod_7 (by decide) (by omega) (by omega) (fun hb7 => ?_) (fun hb7 => ?_)
      · refine V_null d_Df_findMethod_36 ?_
        exact V_areturn d_Df_findMethod_37 rfl (Or.inl rfl) (hN (fun k hk => hv k (by omega)))
      · refine V_aload_n d_Df_findMethod_10 rfl ?_
        refine V_getf d_Df_findMethod_11 f_Df_30 h1 rfl ?_
        refine V_iload_n d_Df_findMethod_14 rfl ?_
        refine V_aaload (j := i) d_Df_findMethod_15 rfl h5 rfl (by omega) (by omega) ?_
        rw [h5' i (by omega)]
        show pV Γ _ _ _ (.ref (a + 5 + 3 * i) :: _) _ _ _ _ _
        refine V_getf d_Df_findMethod_16 f_Df_51 (h7 i (by omega)).1 rfl ?_
        refine V_iload_n d_Df_findMethod_19 rfl ?_
        refine V_icmp_ne (tgt := 30) d_Df_findMethod_20 (by decide) (fun hb20 => ?_) (fun hb20 => ?_)
        · refine V_iincN d_Df_findMethod_30 rfl ?_
          show pV Γ _ _ [some (.ref a), some (.int x), some (.int (nI (i + 1)))] _ _ _ _ _ _
          refine V_goto (tgt := 2) d_Df_findMethod_33 (by decide) ?_
          exact ih (i + 1) (by omega) (by omega) (fun k hk => by
            rcases Nat.lt_or_ge k i with q | q
            · exact hv k q
            · rw [show k = i by omega]; exact hb20)
        · refine V_aload_n d_Df_findMethod_23 rfl ?_
          refine V_getf d_Df_findMethod_24 f_Df_30 h1 rfl ?_
          refine V_iload_n d_Df_findMethod_27 rfl ?_
          refine V_aaload (j := i) d_Df_findMethod_28 rfl h5 rfl (by omega) (by omega) ?_
          rw [h5' i (by omega)]
          show pV Γ _ _ _ (.ref (a + 5 + 3 * i) :: _) _ _ _ _ _
          exact V_areturn d_Df_findMethod_29 rfl (Or.inr ⟨_, rfl⟩) (hS i (by omega) hb20 hv)
  refine V_iconst (v := nI 0) d_Df_findMethod_0 (by decide +kernel) ?_
  refine V_istore_n d_Df_findMethod_1 (Nat.le_of_ble_eq_true rfl) ?_
  show pV Γ _ _ [some (.ref a), some (.int x), some (.int (nI 0))] _ _ _ _ _ _
  exact loop (dNm D + 1) 0 (by omega) (by omega) (fun k hk => absurd hk (by omega))
set_option maxHeartbeats 1000000 in
theorem c_Df_hasInterface {Γ : pmE} {G : pmG} {n : Nat} {Q : pmPost} {a : Nat} {D : Dfn} {x : Int32} (h : isDef G a D) (hQ : Q (some (.int (pB (∃ k, k < dNi D ∧ dI D k = x)))) n G) : pV Γ m_Df_hasInterface 0 [some (.ref a), some (.int x), none] [] n G 0 0 Q := by
  obtain ⟨⟨hni, hnf, hnm, hln⟩, h1, ⟨f1, h2, h2'⟩, ⟨f2, h3, h3'⟩, ⟨f3, h4, h4'⟩, ⟨f4, h5, h5'⟩, h6, h7⟩ := h
  have loop : ∀ (d i : Nat), i ≤ dNi D → dNi D - i < d → (∀ k, k < i → dI D k ≠ x) → pV Γ m_Df_hasInterface 2 [some (.ref a), some (.int x), some (.int (nI i))] [] n G 0 0 Q := by
    intro d
    induction d with
    | zero => intro i _ hd; exact absurd hd (by omega)
    | succ d ih =>
      intro i hi hd hv
      refine V_iload_n d_Df_hasInterface_2 rfl ?_
      refine V_aload_n d_Df_hasInterface_3 rfl ?_
      refine V_getf d_Df_hasInterface_4 f_Df_18 h1 rfl ?_
      refine V_icmp_geN (tgt := 28) d_Df_hasInterface_7 (by decide) (by omega) (by omega) (fun hb7 => ?_) (fun hb7 => ?_)
      · refine V_iconst (v := nI 0) d_Df_hasInterface_28 (by decide +kernel) ?_
        exact V_zreturn d_Df_hasInterface_29 rfl (by first | exact pB_or _ | exact Or.inl rfl | exact Or.inr rfl) (pQ_f hQ (fun ⟨k, hk, e⟩ => hv k (by omega) e))
      · refine V_aload_n d_Df_hasInterface_10 rfl ?_
        refine V_getf d_Df_hasInterface_11 f_Df_15 h1 rfl ?_
        refine V_iload_n d_Df_hasInterface_14 rfl ?_
        refine V_iaload (j := i) d_Df_hasInterface_15 rfl h3 rfl (by omega) (by omega) ?_
        refine V_iload_n d_Df_hasInterface_16 rfl ?_
        refine V_icmp_ne (tgt := 22) d_Df_hasInterface_17 (by decide) (fun hb17 => ?_) (fun hb17 => ?_)
        · refine V_iincN d_Df_hasInterface_22 rfl ?_
          show pV Γ _ _ [some (.ref a), some (.int x), some (.int (nI (i + 1)))] _ _ _ _ _ _
          refine V_goto (tgt := 2) d_Df_hasInterface_25 (by decide) ?_
          exact ih (i + 1) (by omega) (by omega) (fun k hk => by
            rcases Nat.lt_or_ge k i with q | q
            · exact hv k q
            · rw [show k = i by omega, ← h3' i (by omega)]; exact hb17)
        · refine V_iconst (v := nI 1) d_Df_hasInterface_20 (by decide +kernel) ?_
          exact V_zreturn d_Df_hasInterface_21 rfl (by first | exact pB_or _ | exact Or.inl rfl | exact Or.inr rfl) (pQ_t hQ ⟨i, by omega, by rw [← h3' i (by omega)]; exact hb17⟩)
  refine V_iconst (v := nI 0) d_Df_hasInterface_0 (by decide +kernel) ?_
  refine V_istore_n d_Df_hasInterface_1 (Nat.le_of_ble_eq_true rfl) ?_
  show pV Γ _ _ [some (.ref a), some (.int x), some (.int (nI 0))] _ _ _ _ _ _
  exact loop (dNi D + 1) 0 (by omega) (by omega) (fun k hk => absurd hk (by omega))
set_option maxHeartbeats 1000000 in
theorem c_Df_hasEqualInterfaces {Γ : pmE} {G : pmG} {n : Nat} {Q : pmPost} {a : Nat} {D : Dfn} (h : isDef G a D) (hQ : Q (some (.int (pB (pDup (dNi D) (dI D))))) n G) : pV Γ m_Df_hasEqualInterfaces 0 [some (.ref a), none, none] [] n G 0 0 Q := by
  obtain ⟨⟨hni, hnf, hnm, hln⟩, h1, ⟨f1, h2, h2'⟩, ⟨f2, h3, h3'⟩, ⟨f3, h4, h4'⟩, ⟨f4, h5, h5'⟩, h6, h7⟩ := h
  have loop : ∀ (d i : Nat), i ≤ dNi D → dNi D - i < d → ∀ w : Option Value, (∀ k, k < i → ∀ j, j < k → dI D k ≠ dI D j) → pV Γ m_Df_hasEqualInterfaces 2 [some (.ref a), some (.int (nI i)), w] [] n G 0 0 Q := by
    intro d
    induction d with
    | zero => intro i _ hd; exact absurd hd (by omega)
    | succ d ih =>
      intro i hi hd w hv
      refine V_iload_n d_Df_hasEqualInterfaces_2 rfl ?_
      refine V_aload_n d_Df_hasEqualInterfaces_3 rfl ?_
      refine V_getf d_Df_hasEqualInterfaces_4 f_Df_18 h1 rfl ?_
      refine V_icmp_geN (tgt := 46) d_Df_hasEqualInterfaces_7 (by decide) (by omega) (by omega) (fun hb7 => ?_) (fun hb7 => ?_)
      · refine V_iconst (v := nI 0) d_Df_hasEqualInterfaces_46 (by decide +kernel) ?_
        exact V_zreturn d_Df_hasEqualInterfaces_47 rfl (by first | exact pB_or _ | exact Or.inl rfl | exact Or.inr rfl) (pQ_f hQ (fun ⟨k, j, g1, g2, e⟩ => hv k (by omega) j g1 e))
      · refine V_iconst (v := nI 0) d_Df_hasEqualInterfaces_10 (by decide +kernel) ?_
        refine V_istore_n d_Df_hasEqualInterfaces_11 (Nat.le_of_ble_eq_true rfl) ?_
        show pV Γ _ _ [some (.ref a), some (.int (nI i)), some (.int (nI 0))] _ _ _ _ _ _
        have inner : ∀ (d2 j : Nat), j ≤ i → i - j < d2 → (∀ k, k < j → dI D i ≠ dI D k) → pV Γ m_Df_hasEqualInterfaces 12 [some (.ref a), some (.int (nI i)), some (.int (nI j))] [] n G 0 0 Q := by
          intro d2
          induction d2 with
          | zero => intro j _ hd2; exact absurd hd2 (by omega)
          | succ d2 ih2 =>
            intro j hj hd2 hw
            refine V_iload_n d_Df_hasEqualInterfaces_12 rfl ?_
            refine V_iload_n d_Df_hasEqualInterfaces_13 rfl ?_
            refine V_icmp_geN (tgt := 40) d_Df_hasEqualInterfaces_14 (by decide) (by omega) (by omega) (fun hb14 => ?_) (fun hb14 => ?_)
            · refine V_iincN d_Df_hasEqualInterfaces_40 rfl ?_
              show pV Γ _ _ [some (.ref a), some (.int (nI (i + 1))), some (.int (nI j))] _ _ _ _ _ _
              refine V_goto (tgt := 2) d_Df_hasEqualInterfaces_43 (by decide) ?_
              exact ih (i + 1) (by omega) (by omega) _ (fun k hk j hj => by
                rcases Nat.lt_or_ge k i with q | q
                · exact hv k q j hj
                · rw [show k = i by omega]; exact hw j (by omega))
            · refine V_aload_n d_Df_hasEqualInterfaces_17 rfl ?_
              refine V_getf d_Df_hasEqualInterfaces_18 f_Df_15 h1 rfl ?_
              refine V_iload_n d_Df_hasEqualInterfaces_21 rfl ?_
              refine V_iaload (j := i) d_Df_hasEqualInterfaces_22 rfl h3 rfl (by omega) (by omega) ?_
              refine V_aload_n d_Df_hasEqualInterfaces_23 rfl ?_
              refine V_getf d_Df_hasEqualInterfaces_24 f_Df_15 h1 rfl ?_
              refine V_iload_n d_Df_hasEqualInterfaces_27 rfl ?_
              refine V_iaload (j := j) d_Df_hasEqualInterfaces_28 rfl h3 rfl (by omega) (by omega) ?_
              refine V_icmp_ne (tgt := 34) d_Df_hasEqualInterfaces_29 (by decide) (fun hb29 => ?_) (fun hb29 => ?_)
              · refine V_iincN d_Df_hasEqualInterfaces_34 rfl ?_
                show pV Γ _ _ [some (.ref a), some (.int (nI i)), some (.int (nI (j + 1)))] _ _ _ _ _ _
                refine V_goto (tgt := 12) d_Df_hasEqualInterfaces_37 (by decide) ?_
                exact ih2 (j + 1) (by omega) (by omega) (fun k hk => by
                  rcases Nat.lt_or_ge k j with q | q
                  · exact hw k q
                  · rw [show k = j by omega]; exact (by rw [← h3' i (by omega), ← h3' j (by omega)]; exact hb29))
              · refine V_iconst (v := nI 1) d_Df_hasEqualInterfaces_32 (by decide +kernel) ?_
                exact V_zreturn d_Df_hasEqualInterfaces_33 rfl (by first | exact pB_or _ | exact Or.inl rfl | exact Or.inr rfl) (pQ_t hQ ⟨i, j, by omega, by omega, (by rw [← h3' i (by omega), ← h3' j (by omega)]; exact hb29)⟩)
        exact inner (i + 1) 0 (by omega) (by omega) (fun k hk => absurd hk (by omega))
  refine V_iconst (v := nI 0) d_Df_hasEqualInterfaces_0 (by decide +kernel) ?_
  refine V_istore_n d_Df_hasEqualInterfaces_1 (Nat.le_of_ble_eq_true rfl) ?_
  show pV Γ _ _ [some (.ref a), some (.int (nI 0)), none] _ _ _ _ _ _
  exact loop (dNi D + 1) 0 (by omega) (by omega) _ (fun k hk => absurd hk (by omega))
set_option maxHeartbeats 1000000 in
theorem c_Df_hasFieldsOfOneName {Γ : pmE} {G : pmG} {n : Nat} {Q : pmPost} {a : Nat} {D : Dfn} (h : isDef G a D) (hQ : Q (some (.int (pB (pDup (dNf D) (fun k => dF D (k * 3)))))) n G) : pV Γ m_Df_hasFieldsOfOneName 0 [some (.ref a), none, none] [] n G 0 0 Q := by
  obtain ⟨⟨hni, hnf, hnm, hln⟩, h1, ⟨f1, h2, h2'⟩, ⟨f2, h3, h3'⟩, ⟨f3, h4, h4'⟩, ⟨f4, h5, h5'⟩, h6, h7⟩ := h
  have loop : ∀ (d i : Nat), i ≤ dNf D → dNf D - i < d → ∀ w : Option Value, (∀ k, k < i → ∀ j, j < k → (fun k => dF D (k * 3)) k ≠ (fun k => dF D (k * 3)) j) → pV Γ m_Df_hasFieldsOfOneName 2 [some (.ref a), some (.int (nI i)), w] [] n G 0 0 Q := by
    intro d
    induction d with
    | zero => intro i _ hd; exact absurd hd (by omega)
    | succ d ih =>
      intro i hi hd w hv
      refine V_iload_n d_Df_hasFieldsOfOneName_2 rfl ?_
      refine V_aload_n d_Df_hasFieldsOfOneName_3 rfl ?_
      refine V_getf d_Df_hasFieldsOfOneName_4 f_Df_25 h1 rfl ?_
      refine V_icmp_geN (tgt := 50) d_Df_hasFieldsOfOneName_7 (by decide) (by omega) (by omega) (fun hb7 => ?_) (fun hb7 => ?_)
      · refine V_iconst (v := nI 0) d_Df_hasFieldsOfOneName_50 (by decide +kernel) ?_
        exact V_zreturn d_Df_hasFieldsOfOneName_51 rfl (by first | exact pB_or _ | exact Or.inl rfl | exact Or.inr rfl) (pQ_f hQ (fun ⟨k, j, g1, g2, e⟩ => hv k (by omega) j g1 e))
      · refine V_iconst (v := nI 0) d_Df_hasFieldsOfOneName_10 (by decide +kernel) ?_
        refine V_istore_n d_Df_hasFieldsOfOneName_11 (Nat.le_of_ble_eq_true rfl) ?_
        show pV Γ _ _ [some (.ref a), some (.int (nI i)), some (.int (nI 0))] _ _ _ _ _ _
        have inner : ∀ (d2 j : Nat), j ≤ i → i - j < d2 → (∀ k, k < j → (fun k => dF D (k * 3)) i ≠ (fun k => dF D (k * 3)) k) → pV Γ m_Df_hasFieldsOfOneName 12 [some (.ref a), some (.int (nI i)), some (.int (nI j))] [] n G 0 0 Q := by
          intro d2
          induction d2 with
          | zero => intro j _ hd2; exact absurd hd2 (by omega)
          | succ d2 ih2 =>
            intro j hj hd2 hw
            refine V_iload_n d_Df_hasFieldsOfOneName_12 rfl ?_
            refine V_iload_n d_Df_hasFieldsOfOneName_13 rfl ?_
            refine V_icmp_geN (tgt := 44) d_Df_hasFieldsOfOneName_14 (by decide) (by omega) (by omega) (fun hb14 => ?_) (fun hb14 => ?_)
            · refine V_iincN d_Df_hasFieldsOfOneName_44 rfl ?_
              show pV Γ _ _ [some (.ref a), some (.int (nI (i + 1))), some (.int (nI j))] _ _ _ _ _ _
              refine V_goto (tgt := 2) d_Df_hasFieldsOfOneName_47 (by decide) ?_
              exact ih (i + 1) (by omega) (by omega) _ (fun k hk j hj => by
                rcases Nat.lt_or_ge k i with q | q
                · exact hv k q j hj
                · rw [show k = i by omega]; exact hw j (by omega))
            · refine V_aload_n d_Df_hasFieldsOfOneName_17 rfl ?_
              refine V_getf d_Df_hasFieldsOfOneName_18 f_Df_22 h1 rfl ?_
              refine V_iload_n d_Df_hasFieldsOfOneName_21 rfl ?_
              refine V_iconst (v := nI 3) d_Df_hasFieldsOfOneName_22 (by decide +kernel) ?_
              refine V_imulN d_Df_hasFieldsOfOneName_23 ?_
              refine V_iaload (j := i * 3) d_Df_hasFieldsOfOneName_24 rfl h4 rfl (by omega) (by omega) ?_
              refine V_aload_n d_Df_hasFieldsOfOneName_25 rfl ?_
              refine V_getf d_Df_hasFieldsOfOneName_26 f_Df_22 h1 rfl ?_
              refine V_iload_n d_Df_hasFieldsOfOneName_29 rfl ?_
              refine V_iconst (v := nI 3) d_Df_hasFieldsOfOneName_30 (by decide +kernel) ?_
              refine V_imulN d_Df_hasFieldsOfOneName_31 ?_
              refine V_iaload (j := j * 3) d_Df_hasFieldsOfOneName_32 rfl h4 rfl (by omega) (by omega) ?_
              refine V_icmp_ne (tgt := 38) d_Df_hasFieldsOfOneName_33 (by decide) (fun hb33 => ?_) (fun hb33 => ?_)
              · refine V_iincN d_Df_hasFieldsOfOneName_38 rfl ?_
                show pV Γ _ _ [some (.ref a), some (.int (nI i)), some (.int (nI (j + 1)))] _ _ _ _ _ _
                refine V_goto (tgt := 12) d_Df_hasFieldsOfOneName_41 (by decide) ?_
                exact ih2 (j + 1) (by omega) (by omega) (fun k hk => by
                  rcases Nat.lt_or_ge k j with q | q
                  · exact hw k q
                  · rw [show k = j by omega]; exact (by show dF D (i * 3) ≠ dF D (j * 3); rw [← h4' (i * 3) (by omega), ← h4' (j * 3) (by omega)]; exact hb33))
              · refine V_iconst (v := nI 1) d_Df_hasFieldsOfOneName_36 (by decide +kernel) ?_
                exact V_zreturn d_Df_hasFieldsOfOneName_37 rfl (by first | exact pB_or _ | exact Or.inl rfl | exact Or.inr rfl) (pQ_t hQ ⟨i, j, by omega, by omega, (by show dF D (i * 3) = dF D (j * 3); rw [← h4' (i * 3) (by omega), ← h4' (j * 3) (by omega)]; exact hb33)⟩)
        exact inner (i + 1) 0 (by omega) (by omega) (fun k hk => absurd hk (by omega))
  refine V_iconst (v := nI 0) d_Df_hasFieldsOfOneName_0 (by decide +kernel) ?_
  refine V_istore_n d_Df_hasFieldsOfOneName_1 (Nat.le_of_ble_eq_true rfl) ?_
  show pV Γ _ _ [some (.ref a), some (.int (nI 0)), none] _ _ _ _ _ _
  exact loop (dNf D + 1) 0 (by omega) (by omega) _ (fun k hk => absurd hk (by omega))
set_option maxHeartbeats 1000000 in
theorem c_Df_hasMethodsOfOneName {Γ : pmE} {G : pmG} {n : Nat} {Q : pmPost} {a : Nat} {D : Dfn} (h : isDef G a D) (hQ : Q (some (.int (pB (pDup (dNm D) (dN D))))) n G) : pV Γ m_Df_hasMethodsOfOneName 0 [some (.ref a), none, none] [] n G 0 0 Q := by
  obtain ⟨⟨hni, hnf, hnm, hln⟩, h1, ⟨f1, h2, h2'⟩, ⟨f2, h3, h3'⟩, ⟨f3, h4, h4'⟩, ⟨f4, h5, h5'⟩, h6, h7⟩ := h
  have loop : ∀ (d i : Nat), i ≤ dNm D → dNm D - i < d → ∀ w : Option Value, (∀ k, k < i → ∀ j, j < k → dN D k ≠ dN D j) → pV Γ m_Df_hasMethodsOfOneName 2 [some (.ref a), some (.int (nI i)), w] [] n G 0 0 Q := by
    intro d
    induction d with
    | zero => intro i _ hd; exact absurd hd (by omega)
    | succ d ih =>
      intro i hi hd w hv
      refine V_iload_n d_Df_hasMethodsOfOneName_2 rfl ?_
      refine V_aload_n d_Df_hasMethodsOfOneName_3 rfl ?_
      refine V_getf d_Df_hasMethodsOfOneName_4 f_Df_34 h1 rfl ?_
      refine V_icmp_geN (tgt := 52) d_Df_hasMethodsOfOneName_7 (by decide) (by omega) (by omega) (fun hb7 => ?_) (fun hb7 => ?_)
      · refine V_iconst (v := nI 0) d_Df_hasMethodsOfOneName_52 (by decide +kernel) ?_
        exact V_zreturn d_Df_hasMethodsOfOneName_53 rfl (by first | exact pB_or _ | exact Or.inl rfl | exact Or.inr rfl) (pQ_f hQ (fun ⟨k, j, g1, g2, e⟩ => hv k (by omega) j g1 e))
      · refine V_iconst (v := nI 0) d_Df_hasMethodsOfOneName_10 (by decide +kernel) ?_
        refine V_istore_n d_Df_hasMethodsOfOneName_11 (Nat.le_of_ble_eq_true rfl) ?_
        show pV Γ _ _ [some (.ref a), some (.int (nI i)), some (.int (nI 0))] _ _ _ _ _ _
        have inner : ∀ (d2 j : Nat), j ≤ i → i - j < d2 → (∀ k, k < j → dN D i ≠ dN D k) → pV Γ m_Df_hasMethodsOfOneName 12 [some (.ref a), some (.int (nI i)), some (.int (nI j))] [] n G 0 0 Q := by
          intro d2
          induction d2 with
          | zero => intro j _ hd2; exact absurd hd2 (by omega)
          | succ d2 ih2 =>
            intro j hj hd2 hw
            refine V_iload_n d_Df_hasMethodsOfOneName_12 rfl ?_
            refine V_iload_n d_Df_hasMethodsOfOneName_13 rfl ?_
            refine V_icmp_geN (tgt := 46) d_Df_hasMethodsOfOneName_14 (by decide) (by omega) (by omega) (fun hb14 => ?_) (fun hb14 => ?_)
            · refine V_iincN d_Df_hasMethodsOfOneName_46 rfl ?_
              show pV Γ _ _ [some (.ref a), some (.int (nI (i + 1))), some (.int (nI j))] _ _ _ _ _ _
              refine V_goto (tgt := 2) d_Df_hasMethodsOfOneName_49 (by decide) ?_
              exact ih (i + 1) (by omega) (by omega) _ (fun k hk j hj => by
                rcases Nat.lt_or_ge k i with q | q
                · exact hv k q j hj
                · rw [show k = i by omega]; exact hw j (by omega))
            · refine V_aload_n d_Df_hasMethodsOfOneName_17 rfl ?_
              refine V_getf d_Df_hasMethodsOfOneName_18 f_Df_30 h1 rfl ?_
              refine V_iload_n d_Df_hasMethodsOfOneName_21 rfl ?_
              refine V_aaload (j := i) d_Df_hasMethodsOfOneName_22 rfl h5 rfl (by omega) (by omega) ?_
              rw [h5' i (by omega)]
              show pV Γ _ _ _ (.ref (a + 5 + 3 * i) :: _) _ _ _ _ _
              refine V_getf d_Df_hasMethodsOfOneName_23 f_Df_51 (h7 i (by omega)).1 rfl ?_
              refine V_aload_n d_Df_hasMethodsOfOneName_26 rfl ?_
              refine V_getf d_Df_hasMethodsOfOneName_27 f_Df_30 h1 rfl ?_
              refine V_iload_n d_Df_hasMethodsOfOneName_30 rfl ?_
              refine V_aaload (j := j) d_Df_hasMethodsOfOneName_31 rfl h5 rfl (by omega) (by omega) ?_
              rw [h5' j (by omega)]
              show pV Γ _ _ _ (.ref (a + 5 + 3 * j) :: _) _ _ _ _ _
              refine V_getf d_Df_hasMethodsOfOneName_32 f_Df_51 (h7 j (by omega)).1 rfl ?_
              refine V_icmp_ne (tgt := 40) d_Df_hasMethodsOfOneName_35 (by decide) (fun hb35 => ?_) (fun hb35 => ?_)
              · refine V_iincN d_Df_hasMethodsOfOneName_40 rfl ?_
                show pV Γ _ _ [some (.ref a), some (.int (nI i)), some (.int (nI (j + 1)))] _ _ _ _ _ _
                refine V_goto (tgt := 12) d_Df_hasMethodsOfOneName_43 (by decide) ?_
                exact ih2 (j + 1) (by omega) (by omega) (fun k hk => by
                  rcases Nat.lt_or_ge k j with q | q
                  · exact hw k q
                  · rw [show k = j by omega]; exact hb35)
              · refine V_iconst (v := nI 1) d_Df_hasMethodsOfOneName_38 (by decide +kernel) ?_
                exact V_zreturn d_Df_hasMethodsOfOneName_39 rfl (by first | exact pB_or _ | exact Or.inl rfl | exact Or.inr rfl) (pQ_t hQ ⟨i, j, by omega, by omega, hb35⟩)
        exact inner (i + 1) 0 (by omega) (by omega) (fun k hk => absurd hk (by omega))
  refine V_iconst (v := nI 0) d_Df_hasMethodsOfOneName_0 (by decide +kernel) ?_
  refine V_istore_n d_Df_hasMethodsOfOneName_1 (Nat.le_of_ble_eq_true rfl) ?_
  show pV Γ _ _ [some (.ref a), some (.int (nI 0)), none] _ _ _ _ _ _
  exact loop (dNm D + 1) 0 (by omega) (by omega) _ (fun k hk => absurd hk (by omega))
