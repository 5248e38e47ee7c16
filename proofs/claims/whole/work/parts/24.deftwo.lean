/-! Definition: two of them beside each other. -/
set_option maxHeartbeats 1000000 in
theorem c_Df_hasFieldsOf {Γ : pmE} {G : pmG} {n : Nat} {Q : pmPost} {a b : Nat} {D E : Dfn} (h : isDef G a D) (j : isDef G b E) (hQ : Q (some (.int (pB (dNf D = dNf E ∧ ∀ k, k < 3 * dNf D → dF D k = dF E k)))) n G) : pV Γ m_Df_hasFieldsOf 0 [some (.ref a), some (.ref b), none] [] n G 0 0 Q := by
  obtain ⟨⟨hni, hnf, hnm, hln⟩, h1, ⟨f1, h2, h2'⟩, ⟨f2, h3, h3'⟩, ⟨f3, h4, h4'⟩, ⟨f4, h5, h5'⟩, h6, h7⟩ := h
  obtain ⟨⟨jni, jnf, jnm, jln⟩, j1, ⟨g1, j2, j2'⟩, ⟨g2, j3, j3'⟩, ⟨g3, j4, j4'⟩, ⟨g4, j5, j5'⟩, j6, j7⟩ := j
  refine V_aload_n d_Df_hasFieldsOf_0 rfl ?_
  refine V_getf d_Df_hasFieldsOf_1 f_Df_25 h1 rfl ?_
  refine V_aload_n d_Df_hasFieldsOf_4 rfl ?_
  refine V_getf d_Df_hasFieldsOf_5 f_Df_25 j1 rfl ?_
  refine V_icmp_eqN (tgt := 13) d_Df_hasFieldsOf_8 (by decide) (by omega) (by omega) (fun hb8 => ?_) (fun hb8 => ?_)
  · refine V_iconst (v := nI 0) d_Df_hasFieldsOf_13 (by decide +kernel) ?_
    refine V_istore_n d_Df_hasFieldsOf_14 (Nat.le_of_ble_eq_true rfl) ?_
    show pV Γ _ _ [some (.ref a), some (.ref b), some (.int (nI 0))] _ _ _ _ _ _
    have he : dNf D = dNf E := hb8
    have loop : ∀ (d i : Nat), i ≤ dNf D * 3 → dNf D * 3 - i < d → (∀ k, k < i → dF D k = dF E k) → pV Γ m_Df_hasFieldsOf 15 [some (.ref a), some (.ref b), some (.int (nI i))] [] n G 0 0 Q := by
      intro d
      induction d with
      | zero => intro i _ hd; exact absurd hd (by omega)
      | succ d ih =>
        intro i hi hd hv
        refine V_iload_n d_Df_hasFieldsOf_15 rfl ?_
        refine V_aload_n d_Df_hasFieldsOf_16 rfl ?_
        refine V_getf d_Df_hasFieldsOf_17 f_Df_25 h1 rfl ?_
        refine V_iconst (v := nI 3) d_Df_hasFieldsOf_20 (by decide +kernel) ?_
        refine V_imulN d_Df_hasFieldsOf_21 ?_
        refine V_icmp_geN (tgt := 48) d_Df_hasFieldsOf_22 (by decide) (by omega) (by omega) (fun hb22 => ?_) (fun hb22 => ?_)
        · refine V_iconst (v := nI 1) d_Df_hasFieldsOf_48 (by decide +kernel) ?_
          exact V_zreturn d_Df_hasFieldsOf_49 rfl (by first | exact pB_or _ | exact Or.inl rfl | exact Or.inr rfl) (pQ_t hQ ⟨he, fun k hk => hv k (by omega)⟩)
        · refine V_aload_n d_Df_hasFieldsOf_25 rfl ?_
          refine V_getf d_Df_hasFieldsOf_26 f_Df_22 h1 rfl ?_
          refine V_iload_n d_Df_hasFieldsOf_29 rfl ?_
          refine V_iaload (j := i) d_Df_hasFieldsOf_30 rfl h4 rfl (by omega) (by omega) ?_
          refine V_aload_n d_Df_hasFieldsOf_31 rfl ?_
          refine V_getf d_Df_hasFieldsOf_32 f_Df_22 j1 rfl ?_
          refine V_iload_n d_Df_hasFieldsOf_35 rfl ?_
          refine V_iaload (j := i) d_Df_hasFieldsOf_36 rfl j4 rfl (by omega) (by omega) ?_
          refine V_icmp_eq (tgt := 42) d_Df_hasFieldsOf_37 (by decide) (fun hb37 => ?_) (fun hb37 => ?_)
          · refine V_iincN d_Df_hasFieldsOf_42 rfl ?_
            show pV Γ _ _ [some (.ref a), some (.ref b), some (.int (nI (i + 1)))] _ _ _ _ _ _
            refine V_goto (tgt := 15) d_Df_hasFieldsOf_45 (by decide) ?_
            exact ih (i + 1) (by omega) (by omega) (fun k hk => by
              rcases Nat.lt_or_ge k i with q | q
              · exact hv k q
              · rw [show k = i by omega, ← h4' i (by omega), ← j4' i (by omega)]; exact hb37)
          · refine V_iconst (v := nI 0) d_Df_hasFieldsOf_40 (by decide +kernel) ?_
            exact V_zreturn d_Df_hasFieldsOf_41 rfl (by first | exact pB_or _ | exact Or.inl rfl | exact Or.inr rfl) (pQ_f hQ (fun e => hb37 (by rw [h4' i (by omega), j4' i (by omega)]; exact e.2 i (by omega))))
    exact loop (dNf D * 3 + 1) 0 (by omega) (by omega) (fun k hk => absurd hk (by omega))
  · refine V_iconst (v := nI 0) d_Df_hasFieldsOf_11 (by decide +kernel) ?_
    exact V_zreturn d_Df_hasFieldsOf_12 rfl (by first | exact pB_or _ | exact Or.inl rfl | exact Or.inr rfl) (pQ_f hQ (fun e => hb8 e.1))
set_option maxHeartbeats 1000000 in
theorem c_Df_hasInterfacesOf {Γ : pmE} {G : pmG} {n : Nat} {Q : pmPost} {a b : Nat} {D E : Dfn} (h : isDef G a D) (j : isDef G b E) (hQ : Q (some (.int (pB (dNi D = dNi E ∧ ∀ k, k < dNi D → ∃ m, m < dNi E ∧ dI E m = dI D k)))) n G) : pV Γ m_Df_hasInterfacesOf 0 [some (.ref a), some (.ref b), none] [] n G 0 0 Q := by
  have hE := j
  obtain ⟨⟨hni, hnf, hnm, hln⟩, h1, ⟨f1, h2, h2'⟩, ⟨f2, h3, h3'⟩, ⟨f3, h4, h4'⟩, ⟨f4, h5, h5'⟩, h6, h7⟩ := h
  obtain ⟨⟨jni, jnf, jnm, jln⟩, j1, ⟨g1, j2, j2'⟩, ⟨g2, j3, j3'⟩, ⟨g3, j4, j4'⟩, ⟨g4, j5, j5'⟩, j6, j7⟩ := j
  refine V_aload_n d_Df_hasInterfacesOf_0 rfl ?_
  refine V_getf d_Df_hasInterfacesOf_1 f_Df_18 h1 rfl ?_
  refine V_aload_n d_Df_hasInterfacesOf_4 rfl ?_
  refine V_getf d_Df_hasInterfacesOf_5 f_Df_18 j1 rfl ?_
  refine V_icmp_eqN (tgt := 13) d_Df_hasInterfacesOf_8 (by decide) (by omega) (by omega) (fun hb8 => ?_) (fun hb8 => ?_)
  · refine V_iconst (v := nI 0) d_Df_hasInterfacesOf_13 (by decide +kernel) ?_
    refine V_istore_n d_Df_hasInterfacesOf_14 (Nat.le_of_ble_eq_true rfl) ?_
    show pV Γ _ _ [some (.ref a), some (.ref b), some (.int (nI 0))] _ _ _ _ _ _
    have he : dNi D = dNi E := hb8
    have loop : ∀ (d i : Nat), i ≤ dNi D → dNi D - i < d → (∀ k, k < i → ∃ m, m < dNi E ∧ dI E m = dI D k) → pV Γ m_Df_hasInterfacesOf 15 [some (.ref a), some (.ref b), some (.int (nI i))] [] n G 0 0 Q := by
      intro d
      induction d with
      | zero => intro i _ hd; exact absurd hd (by omega)
      | succ d ih =>
        intro i hi hd hv
        refine V_iload_n d_Df_hasInterfacesOf_15 rfl ?_
        refine V_aload_n d_Df_hasInterfacesOf_16 rfl ?_
        refine V_getf d_Df_hasInterfacesOf_17 f_Df_18 h1 rfl ?_
        refine V_icmp_geN (tgt := 44) d_Df_hasInterfacesOf_20 (by decide) (by omega) (by omega) (fun hb20 => ?_) (fun hb20 => ?_)
        · refine V_iconst (v := nI 1) d_Df_hasInterfacesOf_44 (by decide +kernel) ?_
          exact V_zreturn d_Df_hasInterfacesOf_45 rfl (by first | exact pB_or _ | exact Or.inl rfl | exact Or.inr rfl) (pQ_t hQ ⟨he, fun k hk => hv k (by omega)⟩)
        · refine V_aload_n d_Df_hasInterfacesOf_23 rfl ?_
          refine V_aload_n d_Df_hasInterfacesOf_24 rfl ?_
          refine V_getf d_Df_hasInterfacesOf_25 f_Df_15 h1 rfl ?_
          refine V_iload_n d_Df_hasInterfacesOf_28 rfl ?_
          refine V_iaload (j := i) d_Df_hasInterfacesOf_29 rfl h3 rfl (by omega) (by omega) ?_
          rw [h3' i (by omega)]
          refine V_callV (As := [.int ((dI D i))]) (rest := []) (lo' := [some (.ref b), some (.int ((dI D i))), none]) (bc1 := 0) (bs1 := 0) (bc' := 0) (bs' := 0) d_Df_hasInterfacesOf_30 k_Df_hasInterfacesOf_64 j1 rfl rfl rfl rfl (by rfl) (by rfl) ?_
          refine c_Df_hasInterface hE ?_
          show pV Γ m_Df_hasInterfacesOf 33 [some (.ref a), some (.ref b), some (.int (nI i))] [.int (pB (∃ m, m < dNi E ∧ dI E m = dI D i))] _ G 0 0 Q
          refine V_if_neB (tgt := 38) d_Df_hasInterfacesOf_33 (by decide) (fun hb33 => ?_) (fun hb33 => ?_)
          · refine V_iincN d_Df_hasInterfacesOf_38 rfl ?_
            show pV Γ _ _ [some (.ref a), some (.ref b), some (.int (nI (i + 1)))] _ _ _ _ _ _
            refine V_goto (tgt := 15) d_Df_hasInterfacesOf_41 (by decide) ?_
            exact ih (i + 1) (by omega) (by omega) (fun k hk => by
              rcases Nat.lt_or_ge k i with q | q
              · exact hv k q
              · rw [show k = i by omega]; exact hb33)
          · refine V_iconst (v := nI 0) d_Df_hasInterfacesOf_36 (by decide +kernel) ?_
            exact V_zreturn d_Df_hasInterfacesOf_37 rfl (by first | exact pB_or _ | exact Or.inl rfl | exact Or.inr rfl) (pQ_f hQ (fun e => hb33 (e.2 i (by omega))))
    exact loop (dNi D + 1) 0 (by omega) (by omega) (fun k hk => absurd hk (by omega))
  · refine V_iconst (v := nI 0) d_Df_hasInterfacesOf_11 (by decide +kernel) ?_
    exact V_zreturn d_Df_hasInterfacesOf_12 rfl (by first | exact pB_or _ | exact Or.inl rfl | exact Or.inr rfl) (pQ_f hQ (fun e => hb8 e.1))
set_option maxHeartbeats 1000000 in
theorem c_Df_hasMethodNamesOf {Γ : pmE} {G : pmG} {n : Nat} {Q : pmPost} {a b : Nat} {D E : Dfn} (h : isDef G a D) (j : isDef G b E) (hQ : Q (some (.int (pB (∀ k, k < dNm E → ∃ m, m < dNm D ∧ dN D m = dN E k)))) n G) : pV Γ m_Df_hasMethodNamesOf 0 [some (.ref a), some (.ref b), none] [] n G 0 0 Q := by
  have hD := h
  obtain ⟨⟨hni, hnf, hnm, hln⟩, h1, ⟨f1, h2, h2'⟩, ⟨f2, h3, h3'⟩, ⟨f3, h4, h4'⟩, ⟨f4, h5, h5'⟩, h6, h7⟩ := h
  obtain ⟨⟨jni, jnf, jnm, jln⟩, j1, ⟨g1, j2, j2'⟩, ⟨g2, j3, j3'⟩, ⟨g3, j4, j4'⟩, ⟨g4, j5, j5'⟩, j6, j7⟩ := j
  have loop : ∀ (d i : Nat), i ≤ dNm E → dNm E - i < d → (∀ k, k < i → ∃ m, m < dNm D ∧ dN D m = dN E k) → pV Γ m_Df_hasMethodNamesOf 2 [some (.ref a), some (.ref b), some (.int (nI i))] [] n G 0 0 Q := by
    intro d
    induction d with
    | zero => intro i _ hd; exact absurd hd (by omega)
    | succ d ih =>
      intro i hi hd hv
      refine V_iload_n d_Df_hasMethodNamesOf_2 rfl ?_
      refine V_aload_n d_Df_hasMethodNamesOf_3 rfl ?_
      refine V_getf d_Df_hasMethodNamesOf_4 f_Df_34 j1 rfl ?_
      refine V_icmp_geN (tgt := 34) d_Df_hasMethodNamesOf_7 (by decide) (by omega) (by omega) (fun hb7 => ?_) (fun hb7 => ?_)
      · refine V_iconst (v := nI 1) d_Df_hasMethodNamesOf_34 (by decide +kernel) ?_
        exact V_zreturn d_Df_hasMethodNamesOf_35 rfl (by first | exact pB_or _ | exact Or.inl rfl | exact Or.inr rfl) (pQ_t hQ (fun k hk => hv k (by omega)))
      · refine V_aload_n d_Df_hasMethodNamesOf_10 rfl ?_
        refine V_aload_n d_Df_hasMethodNamesOf_11 rfl ?_
        refine V_getf d_Df_hasMethodNamesOf_12 f_Df_30 j1 rfl ?_
        refine V_iload_n d_Df_hasMethodNamesOf_15 rfl ?_
        refine V_aaload (j := i) d_Df_hasMethodNamesOf_16 rfl j5 rfl (by omega) (by omega) ?_
        rw [j5' i (by omega)]
        show pV Γ _ _ _ (.ref (b + 5 + 3 * i) :: _) _ _ _ _ _
        refine V_getf d_Df_hasMethodNamesOf_17 f_Df_51 (j7 i (by omega)).1 rfl ?_
        refine V_callV (As := [.int (dN E i)]) (rest := []) (lo' := [some (.ref a), some (.int (dN E i)), none]) (bc1 := 0) (bs1 := 0) (bc' := 0) (bs' := 0) d_Df_hasMethodNamesOf_20 k_Df_hasMethodNamesOf_68 h1 rfl rfl rfl rfl (by rfl) (by rfl) ?_
        refine c_Df_findMethod hD (fun hn => ?_) (fun k hk he hf => ?_)
        · show pV Γ m_Df_hasMethodNamesOf 23 [some (.ref a), some (.ref b), some (.int (nI i))] [.null] _ G 0 0 Q
          refine V_ifnonnullN d_Df_hasMethodNamesOf_23 ?_
          refine V_iconst (v := nI 0) d_Df_hasMethodNamesOf_26 (by decide +kernel) ?_
          exact V_zreturn d_Df_hasMethodNamesOf_27 rfl (by first | exact pB_or _ | exact Or.inl rfl | exact Or.inr rfl) (pQ_f hQ (fun e => by obtain ⟨m, hm, em⟩ := e i (by omega); exact hn m hm em))
        · show pV Γ m_Df_hasMethodNamesOf 23 [some (.ref a), some (.ref b), some (.int (nI i))] [.ref (a + 5 + 3 * k)] _ G 0 0 Q
          refine V_ifnonnull (tgt := 28) d_Df_hasMethodNamesOf_23 (by decide) ?_
          refine V_iincN d_Df_hasMethodNamesOf_28 rfl ?_
          show pV Γ _ _ [some (.ref a), some (.ref b), some (.int (nI (i + 1)))] _ _ _ _ _ _
          refine V_goto (tgt := 2) d_Df_hasMethodNamesOf_31 (by decide) ?_
          exact ih (i + 1) (by omega) (by omega) (fun k' hk' => by
            rcases Nat.lt_or_ge k' i with q | q
            · exact hv k' q
            · rw [show k' = i by omega]; exact ⟨k, hk, he⟩)
  refine V_iconst (v := nI 0) d_Df_hasMethodNamesOf_0 (by decide +kernel) ?_
  refine V_istore_n d_Df_hasMethodNamesOf_1 (Nat.le_of_ble_eq_true rfl) ?_
  show pV Γ _ _ [some (.ref a), some (.ref b), some (.int (nI 0))] _ _ _ _ _ _
  exact loop (dNm E + 1) 0 (by omega) (by omega) (fun k hk => absurd hk (by omega))
def dFst (D : Dfn) (x : Int32) (j : Nat) : Prop := j < dNm D ∧ dN D j = x ∧ ∀ i, i < j → dN D i ≠ x
set_option maxHeartbeats 1000000 in
theorem c_Df_hasMethodFlagsOf {Γ : pmE} {G : pmG} {n : Nat} {Q : pmPost} {a b : Nat} {D E : Dfn} (h : isDef G a D) (j : isDef G b E) (hQ : Q (some (.int (pB (∀ k, k < dNm E → ∀ m, dFst D (dN E k) m → dG D m = dG E k)))) n G) : pV Γ m_Df_hasMethodFlagsOf 0 [some (.ref a), some (.ref b), none, none] [] n G 0 0 Q := by
  have hD := h
  obtain ⟨⟨hni, hnf, hnm, hln⟩, h1, ⟨f1, h2, h2'⟩, ⟨f2, h3, h3'⟩, ⟨f3, h4, h4'⟩, ⟨f4, h5, h5'⟩, h6, h7⟩ := h
  obtain ⟨⟨jni, jnf, jnm, jln⟩, j1, ⟨g1, j2, j2'⟩, ⟨g2, j3, j3'⟩, ⟨g3, j4, j4'⟩, ⟨g4, j5, j5'⟩, j6, j7⟩ := j
  have loop : ∀ (d i : Nat), i ≤ dNm E → dNm E - i < d → ∀ w : Option Value, (∀ k, k < i → ∀ m, dFst D (dN E k) m → dG D m = dG E k) → pV Γ m_Df_hasMethodFlagsOf 2 [some (.ref a), some (.ref b), some (.int (nI i)), w] [] n G 0 0 Q := by
    intro d
    induction d with
    | zero => intro i _ hd; exact absurd hd (by omega)
    | succ d ih =>
      intro i hi hd w hv
      refine V_iload_n d_Df_hasMethodFlagsOf_2 rfl ?_
      refine V_aload_n d_Df_hasMethodFlagsOf_3 rfl ?_
      refine V_getf d_Df_hasMethodFlagsOf_4 f_Df_34 j1 rfl ?_
      refine V_icmp_geN (tgt := 52) d_Df_hasMethodFlagsOf_7 (by decide) (by omega) (by omega) (fun hb7 => ?_) (fun hb7 => ?_)
      · refine V_iconst (v := nI 1) d_Df_hasMethodFlagsOf_52 (by decide +kernel) ?_
        exact V_zreturn d_Df_hasMethodFlagsOf_53 rfl (by first | exact pB_or _ | exact Or.inl rfl | exact Or.inr rfl) (pQ_t hQ (fun k hk => hv k (by omega)))
      · refine V_aload_n d_Df_hasMethodFlagsOf_10 rfl ?_
        refine V_aload_n d_Df_hasMethodFlagsOf_11 rfl ?_
        refine V_getf d_Df_hasMethodFlagsOf_12 f_Df_30 j1 rfl ?_
        refine V_iload_n d_Df_hasMethodFlagsOf_15 rfl ?_
        refine V_aaload (j := i) d_Df_hasMethodFlagsOf_16 rfl j5 rfl (by omega) (by omega) ?_
        rw [j5' i (by omega)]
        show pV Γ _ _ _ (.ref (b + 5 + 3 * i) :: _) _ _ _ _ _
        refine V_getf d_Df_hasMethodFlagsOf_17 f_Df_51 (j7 i (by omega)).1 rfl ?_
        refine V_callV (As := [.int (dN E i)]) (rest := []) (lo' := [some (.ref a), some (.int (dN E i)), none]) (bc1 := 0) (bs1 := 0) (bc' := 0) (bs' := 0) d_Df_hasMethodFlagsOf_20 k_Df_hasMethodFlagsOf_68 h1 rfl rfl rfl rfl (by rfl) (by rfl) ?_
        refine c_Df_findMethod hD (fun hn => ?_) (fun k hk he hf => ?_)
        · show pV Γ m_Df_hasMethodFlagsOf 23 [some (.ref a), some (.ref b), some (.int (nI i)), w] [.null] _ G 0 0 Q
          refine V_astore_nN d_Df_hasMethodFlagsOf_23 (Nat.le_of_ble_eq_true rfl) ?_
          show pV Γ _ _ [some (.ref a), some (.ref b), some (.int (nI i)), some (.null)] _ _ _ _ _ _
          refine V_aload_nN d_Df_hasMethodFlagsOf_24 rfl ?_
          refine V_ifnullN (tgt := 46) d_Df_hasMethodFlagsOf_25 (by decide) ?_
          refine V_iincN d_Df_hasMethodFlagsOf_46 rfl ?_
          show pV Γ _ _ [some (.ref a), some (.ref b), some (.int (nI (i + 1))), some (.null)] _ _ _ _ _ _
          refine V_goto (tgt := 2) d_Df_hasMethodFlagsOf_49 (by decide) ?_
          exact ih (i + 1) (by omega) (by omega) _ (fun k' hk' m hm => by
            rcases Nat.lt_or_ge k' i with q | q
            · exact hv k' q m hm
            · have e0 : k' = i := by omega
              subst e0
              exact absurd hm.2.1 (hn m hm.1))
        · show pV Γ m_Df_hasMethodFlagsOf 23 [some (.ref a), some (.ref b), some (.int (nI i)), w] [.ref (a + 5 + 3 * k)] _ G 0 0 Q
          refine V_astore_n d_Df_hasMethodFlagsOf_23 (Nat.le_of_ble_eq_true rfl) ?_
          show pV Γ _ _ [some (.ref a), some (.ref b), some (.int (nI i)), some (.ref (a + 5 + 3 * k))] _ _ _ _ _ _
          refine V_aload_n d_Df_hasMethodFlagsOf_24 rfl ?_
          refine V_ifnull d_Df_hasMethodFlagsOf_25 ?_
          refine V_aload_n d_Df_hasMethodFlagsOf_28 rfl ?_
          refine V_getf d_Df_hasMethodFlagsOf_29 f_Df_54 (h7 k (by omega)).1 rfl ?_
          refine V_aload_n d_Df_hasMethodFlagsOf_32 rfl ?_
          refine V_getf d_Df_hasMethodFlagsOf_33 f_Df_30 j1 rfl ?_
          refine V_iload_n d_Df_hasMethodFlagsOf_36 rfl ?_
          refine V_aaload (j := i) d_Df_hasMethodFlagsOf_37 rfl j5 rfl (by omega) (by omega) ?_
          rw [j5' i (by omega)]
          show pV Γ _ _ _ (.ref (b + 5 + 3 * i) :: _) _ _ _ _ _
          refine V_getf d_Df_hasMethodFlagsOf_38 f_Df_54 (j7 i (by omega)).1 rfl ?_
          refine V_icmp_eq (tgt := 46) d_Df_hasMethodFlagsOf_41 (by decide) (fun hb41 => ?_) (fun hb41 => ?_)
          · refine V_iincN d_Df_hasMethodFlagsOf_46 rfl ?_
            show pV Γ _ _ [some (.ref a), some (.ref b), some (.int (nI (i + 1))), some (.ref (a + 5 + 3 * k))] _ _ _ _ _ _
            refine V_goto (tgt := 2) d_Df_hasMethodFlagsOf_49 (by decide) ?_
            exact ih (i + 1) (by omega) (by omega) _ (fun k' hk' m hm => by
              rcases Nat.lt_or_ge k' i with q | q
              · exact hv k' q m hm
              · have e0 : k' = i := by omega
                subst e0
                have e1 : m = k := by
                  rcases Nat.lt_trichotomy m k with q | q | q
                  · exact absurd hm.2.1 (hf m q)
                  · exact q
                  · exact absurd he (hm.2.2 k q)
                rw [e1]; exact hb41)
          · refine V_iconst (v := nI 0) d_Df_hasMethodFlagsOf_44 (by decide +kernel) ?_
            exact V_zreturn d_Df_hasMethodFlagsOf_45 rfl (by first | exact pB_or _ | exact Or.inl rfl | exact Or.inr rfl) (pQ_f hQ (fun e => hb41 (e i (by omega) k ⟨hk, he, hf⟩)))
  refine V_iconst (v := nI 0) d_Df_hasMethodFlagsOf_0 (by decide +kernel) ?_
  refine V_istore_n d_Df_hasMethodFlagsOf_1 (Nat.le_of_ble_eq_true rfl) ?_
  show pV Γ _ _ [some (.ref a), some (.ref b), some (.int (nI 0)), none] _ _ _ _ _ _
  exact loop (dNm E + 1) 0 (by omega) (by omega) _ (fun k hk => absurd hk (by omega))
