/-! The reference: rules beside the current edition. -/
theorem oifs {D E : Dfn} {a : Nat} (ha : a = dNi D) : (dNi D ≠ dNi E ∨ ∃ k, k < a ∧ ¬ ∃ b, b < dNi E ∧ dI D k = dI E b) ↔ ¬ pIfs D E := by
  subst ha
  constructor
  · rintro (h | ⟨k, hk, h⟩) ⟨e1, e2⟩
    · exact h e1
    · obtain ⟨b, hb, e⟩ := e2 k hk
      exact h ⟨b, hb, e.symm⟩
  · intro h
    by_cases e : dNi D = dNi E
    · refine Or.inr (Classical.byContradiction fun q => h ⟨e, fun k hk => Classical.byContradiction fun z => q ⟨k, hk, fun ⟨b, hb, eb⟩ => z ⟨b, hb, eb.symm⟩⟩⟩)
    · exact Or.inl e
theorem ofds {D E : Dfn} {a : Nat} (ha : a = 3 * dNf D ∨ dNf D ≠ dNf E ∨ ∃ k, k < a ∧ k < 3 * dNf D ∧ dF D k ≠ dF E k) : (dNf D ≠ dNf E ∨ ∃ k, k < a ∧ k < 3 * dNf D ∧ dF D k ≠ dF E k) ↔ ¬ pFds D E := by
  constructor
  · rintro (h | ⟨k, hk, h0, h⟩) ⟨e1, e2⟩
    · exact h e1
    · exact h (e2 k h0)
  · intro h
    rcases ha with ha | ha
    · by_cases e : dNf D = dNf E
      · exact Or.inr (Classical.byContradiction fun q => h ⟨e, fun k hk => Classical.byContradiction fun z => q ⟨k, by omega, hk, z⟩⟩)
      · exact Or.inl e
    · exact ha
theorem onms {D E : Dfn} {a : Nat} (ha : a = dNm D) : (∃ k, k < a ∧ ∀ j, j < dNm E → dN E j ≠ dN D k) ↔ ¬ pNms E D := by
  subst ha
  constructor
  · rintro ⟨k, hk, h⟩ e
    obtain ⟨j, hj, ej⟩ := e k hk
    exact h j hj ej
  · intro h
    exact Classical.byContradiction fun q => h fun k hk => Classical.byContradiction fun z => q ⟨k, hk, fun j hj e => z ⟨j, hj, e⟩⟩
theorem dFst_of {D : Dfn} {m : Nat} (hm : m < dNm D) (hd : ¬ pDup (dNm D) (dN D)) : dFst D (dN D m) m := ⟨hm, rfl, fun i hi e => hd ⟨m, i, hi, hm, e.symm⟩⟩
theorem oflg {D E : Dfn} {a : Nat} (ha : a = dNm D) (hD : ¬ pDup (dNm D) (dN D)) (hE : ¬ pDup (dNm E) (dN E)) : (∃ k, k < a ∧ ∃ j, dFst E (dN D k) j ∧ dG D k ≠ dG E j) ↔ ¬ pFlg D E := by
  subst ha
  constructor
  · rintro ⟨k, hk, j, hj, h⟩ e
    have h2 := e j hj.1 k (by rw [hj.2.1]; exact dFst_of hk hD)
    exact h h2
  · intro h
    refine Classical.byContradiction fun q => h fun k hk m hm => Classical.byContradiction fun z => q ⟨m, hm.1, k, ?_, z⟩
    rw [hm.2.1]
    exact dFst_of hk hE
set_option maxHeartbeats 1000000 in
theorem c_Mo_otherInterfaces {Γ : pmE} {G : pmG} {n : Nat} {Q : pmPost} {m : Nat} {ch ba : Int32} {f : Nat → Int32} {r s : Nat} {D E : Dfn} (hH : G m = some (.inr (kMo, moFs m ch ba))) (hF : G (m + 1) = some (.inl (0, 4387, .inl f))) (hr : r < 41) (hs : s < 41) (hR : isRow f r D) (hS : isRow f s E) (hQ : Q (some (.int (pB (¬ pIfs D E)))) n G) : pV Γ m_Mo_otherInterfaces 0 [some (.ref m), some (.int (nI r)), some (.int (nI s)), none, none, none, none] [] n G 0 0 Q := by
  obtain ⟨⟨o1, o2, o3, o4⟩, hr1, hr2, hr3, hr4, hr5, hr7, hr8⟩ := hR
  obtain ⟨⟨p1, p2, p3, p4⟩, hs1, hs2, hs3, hs4, hs5, hs7, hs8⟩ := hS
  have loop : ∀ (d a : Nat), a ≤ dNi D → dNi D - a < d → ∀ (x3 : Int32) (w5 w6 : Option Value), x3 = pB (dNi D ≠ dNi E ∨ ∃ k, k < a ∧ ¬ ∃ b, b < dNi E ∧ dI D k = dI E b) → pV Γ m_Mo_otherInterfaces 24 [some (.ref m), some (.int (nI r)), some (.int (nI s)), some (.int x3), some (.int (nI a)), w5, w6] [] n G 0 0 Q := by
    intro d
    induction d with
    | zero => intro a _ hd; exact absurd hd (by omega)
    | succ d ih =>
      intro a hi hd x3 w5 w6 h3
      subst h3
      refine V_iload d_Mo_otherInterfaces_24 rfl ?_
      refine V_aload_n d_Mo_otherInterfaces_26 rfl ?_
      refine V_iload_n d_Mo_otherInterfaces_27 rfl ?_
      refine V_iconst (v := nI 5) d_Mo_otherInterfaces_28 (by decide +kernel) ?_
      refine V_callV (As := [.int (nI r), .int (nI 5)]) (rest := [.int (nI a)]) (lo' := [some (.ref m), some (.int (nI r)), some (.int (nI 5))]) (bc1 := 0) (bs1 := 0) (bc' := 0) (bs' := 0) d_Mo_otherInterfaces_29 k_Mo_otherInterfaces_69 hH rfl rfl rfl rfl (by rfl) (by rfl) ?_
      refine c_Mo_get hH hF (by omega) ?_
      rw [hr2]
      show pV Γ m_Mo_otherInterfaces 32 [some (.ref m), some (.int (nI r)), some (.int (nI s)), some (.int (pB (dNi D ≠ dNi E ∨ ∃ k, k < a ∧ ¬ ∃ b, b < dNi E ∧ dI D k = dI E b))), some (.int (nI a)), w5, w6] [.int (nI (dNi D)), .int (nI a)] _ G 0 0 Q
      refine V_icmp_geN (tgt := 114) d_Mo_otherInterfaces_32 (by decide) (by omega) (by omega) (fun hb32 => ?_) (fun hb32 => ?_)
      · refine V_iload_n d_Mo_otherInterfaces_114 rfl ?_
        exact V_zreturn d_Mo_otherInterfaces_115 rfl (by first | exact pB_or _ | exact Or.inl rfl | exact Or.inr rfl) (by rw [pB_c (show (dNi D ≠ dNi E ∨ ∃ k, k < a ∧ ¬ ∃ b, b < dNi E ∧ dI D k = dI E b) ↔ ¬ pIfs D E from oifs (by omega))]; exact hQ)
      · refine V_iconst (v := nI 0) d_Mo_otherInterfaces_35 (by decide +kernel) ?_
        refine V_istore d_Mo_otherInterfaces_36 (Nat.le_of_ble_eq_true rfl) ?_
        show pV Γ _ _ [some (.ref m), some (.int (nI r)), some (.int (nI s)), some (.int (pB (dNi D ≠ dNi E ∨ ∃ k, k < a ∧ ¬ ∃ b, b < dNi E ∧ dI D k = dI E b))), some (.int (nI a)), some (.int (nI 0)), w6] _ _ _ _ _ _
        refine V_iconst (v := nI 0) d_Mo_otherInterfaces_38 (by decide +kernel) ?_
        refine V_istore d_Mo_otherInterfaces_39 (Nat.le_of_ble_eq_true rfl) ?_
        show pV Γ _ _ [some (.ref m), some (.int (nI r)), some (.int (nI s)), some (.int (pB (dNi D ≠ dNi E ∨ ∃ k, k < a ∧ ¬ ∃ b, b < dNi E ∧ dI D k = dI E b))), some (.int (nI a)), some (.int (nI 0)), some (.int (nI 0))] _ _ _ _ _ _
        have inner : ∀ (d2 b : Nat), b ≤ dNi E → dNi E - b < d2 → ∀ x5 : Int32, x5 = pB (∃ k, k < b ∧ dI D a = dI E k) → pV Γ m_Mo_otherInterfaces 41 [some (.ref m), some (.int (nI r)), some (.int (nI s)), some (.int (pB (dNi D ≠ dNi E ∨ ∃ k, k < a ∧ ¬ ∃ b, b < dNi E ∧ dI D k = dI E b))), some (.int (nI a)), some (.int x5), some (.int (nI b))] [] n G 0 0 Q := by
          intro d2
          induction d2 with
          | zero => intro b _ hd2; exact absurd hd2 (by omega)
          | succ d2 ih2 =>
            intro b hj hd2 x5 h5
            subst h5
            refine V_iload d_Mo_otherInterfaces_41 rfl ?_
            refine V_aload_n d_Mo_otherInterfaces_43 rfl ?_
            refine V_iload_n d_Mo_otherInterfaces_44 rfl ?_
            refine V_iconst (v := nI 5) d_Mo_otherInterfaces_45 (by decide +kernel) ?_
            refine V_callV (As := [.int (nI s), .int (nI 5)]) (rest := [.int (nI b)]) (lo' := [some (.ref m), some (.int (nI s)), some (.int (nI 5))]) (bc1 := 0) (bs1 := 0) (bc' := 0) (bs' := 0) d_Mo_otherInterfaces_46 k_Mo_otherInterfaces_69 hH rfl rfl rfl rfl (by rfl) (by rfl) ?_
            refine c_Mo_get hH hF (by omega) ?_
            rw [hs2]
            show pV Γ m_Mo_otherInterfaces 49 [some (.ref m), some (.int (nI r)), some (.int (nI s)), some (.int (pB (dNi D ≠ dNi E ∨ ∃ k, k < a ∧ ¬ ∃ b, b < dNi E ∧ dI D k = dI E b))), some (.int (nI a)), some (.int (pB (∃ k, k < b ∧ dI D a = dI E k))), some (.int (nI b))] [.int (nI (dNi E)), .int (nI b)] _ G 0 0 Q
            refine V_icmp_geN (tgt := 93) d_Mo_otherInterfaces_49 (by decide) (by omega) (by omega) (fun hb49 => ?_) (fun hb49 => ?_)
            · refine V_iload_n d_Mo_otherInterfaces_93 rfl ?_
              refine V_if_neB (tgt := 102) d_Mo_otherInterfaces_94 (by decide) (fun hb94 => ?_) (fun hb94 => ?_)
              · refine V_iconst (v := nI 1) d_Mo_otherInterfaces_102 (by decide +kernel) ?_
                refine V_goto (tgt := 107) d_Mo_otherInterfaces_103 (by decide) ?_
                refine V_istore_n d_Mo_otherInterfaces_107 (Nat.le_of_ble_eq_true rfl) ?_
                show pV Γ _ _ [some (.ref m), some (.int (nI r)), some (.int (nI s)), some (.int (nI 1)), some (.int (nI a)), some (.int (pB (∃ k, k < b ∧ dI D a = dI E k))), some (.int (nI b))] _ _ _ _ _ _
                refine V_iincN d_Mo_otherInterfaces_108 rfl ?_
                show pV Γ _ _ [some (.ref m), some (.int (nI r)), some (.int (nI s)), some (.int (nI 1)), some (.int (nI (a + 1))), some (.int (pB (∃ k, k < b ∧ dI D a = dI E k))), some (.int (nI b))] _ _ _ _ _ _
                refine V_goto (tgt := 24) d_Mo_otherInterfaces_111 (by decide) ?_
                exact ih (a + 1) (by omega) (by omega) _ _ _ (pB_t (p := dNi D ≠ dNi E ∨ ∃ k, k < a + 1 ∧ ¬ ∃ b, b < dNi E ∧ dI D k = dI E b) (by first | exact hb94.elim Or.inl (fun ⟨k, hk, e⟩ => Or.inr ⟨k, by omega, e⟩) | exact Or.inr ⟨a, by omega, fun ⟨k, hk, e⟩ => hb99 ⟨k, by omega, e⟩⟩)).symm
              · refine V_iload d_Mo_otherInterfaces_97 rfl ?_
                refine V_if_neB (tgt := 106) d_Mo_otherInterfaces_99 (by decide) (fun hb99 => ?_) (fun hb99 => ?_)
                · refine V_iconst (v := nI 0) d_Mo_otherInterfaces_106 (by decide +kernel) ?_
                  refine V_istore_n d_Mo_otherInterfaces_107 (Nat.le_of_ble_eq_true rfl) ?_
                  show pV Γ _ _ [some (.ref m), some (.int (nI r)), some (.int (nI s)), some (.int (nI 0)), some (.int (nI a)), some (.int (pB (∃ k, k < b ∧ dI D a = dI E k))), some (.int (nI b))] _ _ _ _ _ _
                  refine V_iincN d_Mo_otherInterfaces_108 rfl ?_
                  show pV Γ _ _ [some (.ref m), some (.int (nI r)), some (.int (nI s)), some (.int (nI 0)), some (.int (nI (a + 1))), some (.int (pB (∃ k, k < b ∧ dI D a = dI E k))), some (.int (nI b))] _ _ _ _ _ _
                  refine V_goto (tgt := 24) d_Mo_otherInterfaces_111 (by decide) ?_
                  exact ih (a + 1) (by omega) (by omega) _ _ _ (pB_f (p := dNi D ≠ dNi E ∨ ∃ k, k < a + 1 ∧ ¬ ∃ b, b < dNi E ∧ dI D k = dI E b) (fun e => e.elim (fun e => hb94 (Or.inl e)) (fun ⟨k, hk, e⟩ => (Nat.lt_or_ge k a).elim (fun q => hb94 (Or.inr ⟨k, q, e⟩)) (fun q => by rw [show k = a by omega] at e; exact hb99.elim (fun k' h => e ⟨k', by omega, h.2⟩))))).symm
                · refine V_iconst (v := nI 1) d_Mo_otherInterfaces_102 (by decide +kernel) ?_
                  refine V_goto (tgt := 107) d_Mo_otherInterfaces_103 (by decide) ?_
                  refine V_istore_n d_Mo_otherInterfaces_107 (Nat.le_of_ble_eq_true rfl) ?_
                  show pV Γ _ _ [some (.ref m), some (.int (nI r)), some (.int (nI s)), some (.int (nI 1)), some (.int (nI a)), some (.int (pB (∃ k, k < b ∧ dI D a = dI E k))), some (.int (nI b))] _ _ _ _ _ _
                  refine V_iincN d_Mo_otherInterfaces_108 rfl ?_
                  show pV Γ _ _ [some (.ref m), some (.int (nI r)), some (.int (nI s)), some (.int (nI 1)), some (.int (nI (a + 1))), some (.int (pB (∃ k, k < b ∧ dI D a = dI E k))), some (.int (nI b))] _ _ _ _ _ _
                  refine V_goto (tgt := 24) d_Mo_otherInterfaces_111 (by decide) ?_
                  exact ih (a + 1) (by omega) (by omega) _ _ _ (pB_t (p := dNi D ≠ dNi E ∨ ∃ k, k < a + 1 ∧ ¬ ∃ b, b < dNi E ∧ dI D k = dI E b) (by first | exact hb94.elim Or.inl (fun ⟨k, hk, e⟩ => Or.inr ⟨k, by omega, e⟩) | exact Or.inr ⟨a, by omega, fun ⟨k, hk, e⟩ => hb99 ⟨k, by omega, e⟩⟩)).symm
            · refine V_iload d_Mo_otherInterfaces_52 rfl ?_
              refine V_if_neB (tgt := 80) d_Mo_otherInterfaces_54 (by decide) (fun hb54 => ?_) (fun hb54 => ?_)
              · refine V_iconst (v := nI 1) d_Mo_otherInterfaces_80 (by decide +kernel) ?_
                refine V_goto (tgt := 85) d_Mo_otherInterfaces_81 (by decide) ?_
                refine V_istore d_Mo_otherInterfaces_85 (Nat.le_of_ble_eq_true rfl) ?_
                show pV Γ _ _ [some (.ref m), some (.int (nI r)), some (.int (nI s)), some (.int (pB (dNi D ≠ dNi E ∨ ∃ k, k < a ∧ ¬ ∃ b, b < dNi E ∧ dI D k = dI E b))), some (.int (nI a)), some (.int (nI 1)), some (.int (nI b))] _ _ _ _ _ _
                refine V_iincN d_Mo_otherInterfaces_87 rfl ?_
                show pV Γ _ _ [some (.ref m), some (.int (nI r)), some (.int (nI s)), some (.int (pB (dNi D ≠ dNi E ∨ ∃ k, k < a ∧ ¬ ∃ b, b < dNi E ∧ dI D k = dI E b))), some (.int (nI a)), some (.int (nI 1)), some (.int (nI (b + 1)))] _ _ _ _ _ _
                refine V_goto (tgt := 41) d_Mo_otherInterfaces_90 (by decide) ?_
                exact ih2 (b + 1) (by omega) (by omega) _ (pB_t (p := ∃ k, k < b + 1 ∧ dI D a = dI E k) (by first | exact hb54.elim (fun k h => ⟨k, by omega, h.2⟩) | exact ⟨b, by omega, hb77⟩)).symm
              · refine V_aload_n d_Mo_otherInterfaces_57 rfl ?_
                refine V_iload_n d_Mo_otherInterfaces_58 rfl ?_
                refine V_bipush (v := nI 6) d_Mo_otherInterfaces_59 (by decide +kernel) ?_
                refine V_iload d_Mo_otherInterfaces_61 rfl ?_
                refine V_iaddN d_Mo_otherInterfaces_63 ?_
                refine V_callV (As := [.int (nI r), .int (nI (6 + a))]) (rest := []) (lo' := [some (.ref m), some (.int (nI r)), some (.int (nI (6 + a)))]) (bc1 := 0) (bs1 := 0) (bc' := 0) (bs' := 0) d_Mo_otherInterfaces_64 k_Mo_otherInterfaces_69 hH rfl rfl rfl rfl (by rfl) (by rfl) ?_
                refine c_Mo_get hH hF (by omega) ?_
                rw [hr3 a (by omega)]
                show pV Γ m_Mo_otherInterfaces 67 [some (.ref m), some (.int (nI r)), some (.int (nI s)), some (.int (pB (dNi D ≠ dNi E ∨ ∃ k, k < a ∧ ¬ ∃ b, b < dNi E ∧ dI D k = dI E b))), some (.int (nI a)), some (.int (pB (∃ k, k < b ∧ dI D a = dI E k))), some (.int (nI b))] [.int ((dI D a))] _ G 0 0 Q
                refine V_aload_n d_Mo_otherInterfaces_67 rfl ?_
                refine V_iload_n d_Mo_otherInterfaces_68 rfl ?_
                refine V_bipush (v := nI 6) d_Mo_otherInterfaces_69 (by decide +kernel) ?_
                refine V_iload d_Mo_otherInterfaces_71 rfl ?_
                refine V_iaddN d_Mo_otherInterfaces_73 ?_
                refine V_callV (As := [.int (nI s), .int (nI (6 + b))]) (rest := [.int ((dI D a))]) (lo' := [some (.ref m), some (.int (nI s)), some (.int (nI (6 + b)))]) (bc1 := 0) (bs1 := 0) (bc' := 0) (bs' := 0) d_Mo_otherInterfaces_74 k_Mo_otherInterfaces_69 hH rfl rfl rfl rfl (by rfl) (by rfl) ?_
                refine c_Mo_get hH hF (by omega) ?_
                rw [hs3 b (by omega)]
                show pV Γ m_Mo_otherInterfaces 77 [some (.ref m), some (.int (nI r)), some (.int (nI s)), some (.int (pB (dNi D ≠ dNi E ∨ ∃ k, k < a ∧ ¬ ∃ b, b < dNi E ∧ dI D k = dI E b))), some (.int (nI a)), some (.int (pB (∃ k, k < b ∧ dI D a = dI E k))), some (.int (nI b))] [.int ((dI E b)), .int ((dI D a))] _ G 0 0 Q
                refine V_icmp_ne (tgt := 84) d_Mo_otherInterfaces_77 (by decide) (fun hb77 => ?_) (fun hb77 => ?_)
                · refine V_iconst (v := nI 0) d_Mo_otherInterfaces_84 (by decide +kernel) ?_
                  refine V_istore d_Mo_otherInterfaces_85 (Nat.le_of_ble_eq_true rfl) ?_
                  show pV Γ _ _ [some (.ref m), some (.int (nI r)), some (.int (nI s)), some (.int (pB (dNi D ≠ dNi E ∨ ∃ k, k < a ∧ ¬ ∃ b, b < dNi E ∧ dI D k = dI E b))), some (.int (nI a)), some (.int (nI 0)), some (.int (nI b))] _ _ _ _ _ _
                  refine V_iincN d_Mo_otherInterfaces_87 rfl ?_
                  show pV Γ _ _ [some (.ref m), some (.int (nI r)), some (.int (nI s)), some (.int (pB (dNi D ≠ dNi E ∨ ∃ k, k < a ∧ ¬ ∃ b, b < dNi E ∧ dI D k = dI E b))), some (.int (nI a)), some (.int (nI 0)), some (.int (nI (b + 1)))] _ _ _ _ _ _
                  refine V_goto (tgt := 41) d_Mo_otherInterfaces_90 (by decide) ?_
                  exact ih2 (b + 1) (by omega) (by omega) _ (pB_f (p := ∃ k, k < b + 1 ∧ dI D a = dI E k) (fun ⟨k, hk, e⟩ => (Nat.lt_or_ge k b).elim (fun q => hb54 ⟨k, q, e⟩) (fun q => hb77 (by rw [show b = k by omega]; exact e)))).symm
                · refine V_iconst (v := nI 1) d_Mo_otherInterfaces_80 (by decide +kernel) ?_
                  refine V_goto (tgt := 85) d_Mo_otherInterfaces_81 (by decide) ?_
                  refine V_istore d_Mo_otherInterfaces_85 (Nat.le_of_ble_eq_true rfl) ?_
                  show pV Γ _ _ [some (.ref m), some (.int (nI r)), some (.int (nI s)), some (.int (pB (dNi D ≠ dNi E ∨ ∃ k, k < a ∧ ¬ ∃ b, b < dNi E ∧ dI D k = dI E b))), some (.int (nI a)), some (.int (nI 1)), some (.int (nI b))] _ _ _ _ _ _
                  refine V_iincN d_Mo_otherInterfaces_87 rfl ?_
                  show pV Γ _ _ [some (.ref m), some (.int (nI r)), some (.int (nI s)), some (.int (pB (dNi D ≠ dNi E ∨ ∃ k, k < a ∧ ¬ ∃ b, b < dNi E ∧ dI D k = dI E b))), some (.int (nI a)), some (.int (nI 1)), some (.int (nI (b + 1)))] _ _ _ _ _ _
                  refine V_goto (tgt := 41) d_Mo_otherInterfaces_90 (by decide) ?_
                  exact ih2 (b + 1) (by omega) (by omega) _ (pB_t (p := ∃ k, k < b + 1 ∧ dI D a = dI E k) (by first | exact hb54.elim (fun k h => ⟨k, by omega, h.2⟩) | exact ⟨b, by omega, hb77⟩)).symm
        exact inner (dNi E + 1) 0 (by omega) (by omega) _ (pB_f (fun ⟨k, hk, _⟩ => absurd hk (by omega))).symm
  refine V_aload_n d_Mo_otherInterfaces_0 rfl ?_
  refine V_iload_n d_Mo_otherInterfaces_1 rfl ?_
  refine V_iconst (v := nI 5) d_Mo_otherInterfaces_2 (by decide +kernel) ?_
  refine V_callV (As := [.int (nI r), .int (nI 5)]) (rest := []) (lo' := [some (.ref m), some (.int (nI r)), some (.int (nI 5))]) (bc1 := 0) (bs1 := 0) (bc' := 0) (bs' := 0) d_Mo_otherInterfaces_3 k_Mo_otherInterfaces_69 hH rfl rfl rfl rfl (by rfl) (by rfl) ?_
  refine c_Mo_get hH hF (by omega) ?_
  rw [hr2]
  show pV Γ m_Mo_otherInterfaces 6 [some (.ref m), some (.int (nI r)), some (.int (nI s)), none, none, none, none] [.int (nI (dNi D))] _ G 0 0 Q
  refine V_aload_n d_Mo_otherInterfaces_6 rfl ?_
  refine V_iload_n d_Mo_otherInterfaces_7 rfl ?_
  refine V_iconst (v := nI 5) d_Mo_otherInterfaces_8 (by decide +kernel) ?_
  refine V_callV (As := [.int (nI s), .int (nI 5)]) (rest := [.int (nI (dNi D))]) (lo' := [some (.ref m), some (.int (nI s)), some (.int (nI 5))]) (bc1 := 0) (bs1 := 0) (bc' := 0) (bs' := 0) d_Mo_otherInterfaces_9 k_Mo_otherInterfaces_69 hH rfl rfl rfl rfl (by rfl) (by rfl) ?_
  refine c_Mo_get hH hF (by omega) ?_
  rw [hs2]
  show pV Γ m_Mo_otherInterfaces 12 [some (.ref m), some (.int (nI r)), some (.int (nI s)), none, none, none, none] [.int (nI (dNi E)), .int (nI (dNi D))] _ G 0 0 Q
  refine V_icmp_eqN (tgt := 19) d_Mo_otherInterfaces_12 (by decide) (by omega) (by omega) (fun hb12 => ?_) (fun hb12 => ?_)
  · refine V_iconst (v := nI 0) d_Mo_otherInterfaces_19 (by decide +kernel) ?_
    refine V_istore_n d_Mo_otherInterfaces_20 (Nat.le_of_ble_eq_true rfl) ?_
    show pV Γ _ _ [some (.ref m), some (.int (nI r)), some (.int (nI s)), some (.int (nI 0)), none, none, none] _ _ _ _ _ _
    refine V_iconst (v := nI 0) d_Mo_otherInterfaces_21 (by decide +kernel) ?_
    refine V_istore d_Mo_otherInterfaces_22 (Nat.le_of_ble_eq_true rfl) ?_
    show pV Γ _ _ [some (.ref m), some (.int (nI r)), some (.int (nI s)), some (.int (nI 0)), some (.int (nI 0)), none, none] _ _ _ _ _ _
    exact loop (dNi D + 1) 0 (by omega) (by omega) _ _ _ (pB_f (fun e => e.elim (fun e => e hb12) (fun ⟨k, hk, _⟩ => absurd hk (by omega)))).symm
  · refine V_iconst (v := nI 1) d_Mo_otherInterfaces_15 (by decide +kernel) ?_
    refine V_goto (tgt := 20) d_Mo_otherInterfaces_16 (by decide) ?_
    refine V_istore_n d_Mo_otherInterfaces_20 (Nat.le_of_ble_eq_true rfl) ?_
    show pV Γ _ _ [some (.ref m), some (.int (nI r)), some (.int (nI s)), some (.int (nI 1)), none, none, none] _ _ _ _ _ _
    refine V_iconst (v := nI 0) d_Mo_otherInterfaces_21 (by decide +kernel) ?_
    refine V_istore d_Mo_otherInterfaces_22 (Nat.le_of_ble_eq_true rfl) ?_
    show pV Γ _ _ [some (.ref m), some (.int (nI r)), some (.int (nI s)), some (.int (nI 1)), some (.int (nI 0)), none, none] _ _ _ _ _ _
    exact loop (dNi D + 1) 0 (by omega) (by omega) _ _ _ (pB_t (Or.inl hb12)).symm
set_option maxHeartbeats 1000000 in
theorem c_Mo_otherFields {Γ : pmE} {G : pmG} {n : Nat} {Q : pmPost} {m : Nat} {ch ba : Int32} {f : Nat → Int32} {r s : Nat} {D E : Dfn} (hH : G m = some (.inr (kMo, moFs m ch ba))) (hF : G (m + 1) = some (.inl (0, 4387, .inl f))) (hr : r < 41) (hs : s < 41) (hR : isRow f r D) (hS : isRow f s E) (hQ : Q (some (.int (pB (¬ pFds D E)))) n G) : pV Γ m_Mo_otherFields 0 [some (.ref m), some (.int (nI r)), some (.int (nI s)), none, none] [] n G 0 0 Q := by
  obtain ⟨⟨o1, o2, o3, o4⟩, hr1, hr2, hr3, hr4, hr5, hr7, hr8⟩ := hR
  obtain ⟨⟨p1, p2, p3, p4⟩, hs1, hs2, hs3, hs4, hs5, hs7, hs8⟩ := hS
  have loop : ∀ (d a : Nat), a ≤ 3 * dNf D → 3 * dNf D - a < d → ∀ x3 : Int32, x3 = pB (dNf D ≠ dNf E ∨ ∃ k, k < a ∧ k < 3 * dNf D ∧ dF D k ≠ dF E k) → pV Γ m_Mo_otherFields 26 [some (.ref m), some (.int (nI r)), some (.int (nI s)), some (.int x3), some (.int (nI a))] [] n G 0 0 Q := by
    intro d
    induction d with
    | zero => intro a _ hd; exact absurd hd (by omega)
    | succ d ih =>
      intro a hi hd x3 h3
      subst h3
      refine V_iload d_Mo_otherFields_26 rfl ?_
      refine V_iconst (v := nI 3) d_Mo_otherFields_28 (by decide +kernel) ?_
      refine V_aload_n d_Mo_otherFields_29 rfl ?_
      refine V_iload_n d_Mo_otherFields_30 rfl ?_
      refine V_bipush (v := nI 9) d_Mo_otherFields_31 (by decide +kernel) ?_
      refine V_callV (As := [.int (nI r), .int (nI 9)]) (rest := [.int (nI 3), .int (nI a)]) (lo' := [some (.ref m), some (.int (nI r)), some (.int (nI 9))]) (bc1 := 0) (bs1 := 0) (bc' := 0) (bs' := 0) d_Mo_otherFields_33 k_Mo_otherFields_69 hH rfl rfl rfl rfl (by rfl) (by rfl) ?_
      refine c_Mo_get hH hF (by omega) ?_
      rw [hr4]
      show pV Γ m_Mo_otherFields 36 [some (.ref m), some (.int (nI r)), some (.int (nI s)), some (.int (pB (dNf D ≠ dNf E ∨ ∃ k, k < a ∧ k < 3 * dNf D ∧ dF D k ≠ dF E k))), some (.int (nI a))] [.int (nI (dNf D)), .int (nI 3), .int (nI a)] _ G 0 0 Q
      refine V_imulN d_Mo_otherFields_36 ?_
      refine V_icmp_geN (tgt := 79) d_Mo_otherFields_37 (by decide) (by omega) (by omega) (fun hb37 => ?_) (fun hb37 => ?_)
      · refine V_iload_n d_Mo_otherFields_79 rfl ?_
        exact V_zreturn d_Mo_otherFields_80 rfl (by first | exact pB_or _ | exact Or.inl rfl | exact Or.inr rfl) (by rw [pB_c (ofds (by first | exact Or.inr hb41 | exact Or.inl (by omega)))]; exact hQ)
      · refine V_iload_n d_Mo_otherFields_40 rfl ?_
        refine V_if_neB (tgt := 79) d_Mo_otherFields_41 (by decide) (fun hb41 => ?_) (fun hb41 => ?_)
        · refine V_iload_n d_Mo_otherFields_79 rfl ?_
          exact V_zreturn d_Mo_otherFields_80 rfl (by first | exact pB_or _ | exact Or.inl rfl | exact Or.inr rfl) (by rw [pB_c (ofds (by first | exact Or.inr hb41 | exact Or.inl (by omega)))]; exact hQ)
        · have en : dNf D = dNf E := Classical.byContradiction fun e => hb41 (Or.inl e)
          refine V_aload_n d_Mo_otherFields_44 rfl ?_
          refine V_iload_n d_Mo_otherFields_45 rfl ?_
          refine V_bipush (v := nI 10) d_Mo_otherFields_46 (by decide +kernel) ?_
          refine V_iload d_Mo_otherFields_48 rfl ?_
          refine V_iaddN d_Mo_otherFields_50 ?_
          refine V_callV (As := [.int (nI r), .int (nI (10 + a))]) (rest := []) (lo' := [some (.ref m), some (.int (nI r)), some (.int (nI (10 + a)))]) (bc1 := 0) (bs1 := 0) (bc' := 0) (bs' := 0) d_Mo_otherFields_51 k_Mo_otherFields_69 hH rfl rfl rfl rfl (by rfl) (by rfl) ?_
          refine c_Mo_get hH hF (by omega) ?_
          rw [hr5 a (by omega)]
          show pV Γ m_Mo_otherFields 54 [some (.ref m), some (.int (nI r)), some (.int (nI s)), some (.int (pB (dNf D ≠ dNf E ∨ ∃ k, k < a ∧ k < 3 * dNf D ∧ dF D k ≠ dF E k))), some (.int (nI a))] [.int ((dF D a))] _ G 0 0 Q
          refine V_aload_n d_Mo_otherFields_54 rfl ?_
          refine V_iload_n d_Mo_otherFields_55 rfl ?_
          refine V_bipush (v := nI 10) d_Mo_otherFields_56 (by decide +kernel) ?_
          refine V_iload d_Mo_otherFields_58 rfl ?_
          refine V_iaddN d_Mo_otherFields_60 ?_
          refine V_callV (As := [.int (nI s), .int (nI (10 + a))]) (rest := [.int ((dF D a))]) (lo' := [some (.ref m), some (.int (nI s)), some (.int (nI (10 + a)))]) (bc1 := 0) (bs1 := 0) (bc' := 0) (bs' := 0) d_Mo_otherFields_61 k_Mo_otherFields_69 hH rfl rfl rfl rfl (by rfl) (by rfl) ?_
          refine c_Mo_get hH hF (by omega) ?_
          rw [hs5 a (by omega)]
          show pV Γ m_Mo_otherFields 64 [some (.ref m), some (.int (nI r)), some (.int (nI s)), some (.int (pB (dNf D ≠ dNf E ∨ ∃ k, k < a ∧ k < 3 * dNf D ∧ dF D k ≠ dF E k))), some (.int (nI a))] [.int ((dF E a)), .int ((dF D a))] _ G 0 0 Q
          refine V_icmp_eq (tgt := 71) d_Mo_otherFields_64 (by decide) (fun hb64 => ?_) (fun hb64 => ?_)
          · refine V_iconst (v := nI 0) d_Mo_otherFields_71 (by decide +kernel) ?_
            refine V_istore_n d_Mo_otherFields_72 (Nat.le_of_ble_eq_true rfl) ?_
            show pV Γ _ _ [some (.ref m), some (.int (nI r)), some (.int (nI s)), some (.int (nI 0)), some (.int (nI a))] _ _ _ _ _ _
            refine V_iincN d_Mo_otherFields_73 rfl ?_
            show pV Γ _ _ [some (.ref m), some (.int (nI r)), some (.int (nI s)), some (.int (nI 0)), some (.int (nI (a + 1)))] _ _ _ _ _ _
            refine V_goto (tgt := 26) d_Mo_otherFields_76 (by decide) ?_
            exact ih (a + 1) (by omega) (by omega) _ (pB_f (p := dNf D ≠ dNf E ∨ ∃ k, k < a + 1 ∧ k < 3 * dNf D ∧ dF D k ≠ dF E k) (fun e => e.elim (fun e => e en) (fun ⟨k, hk, h0, e⟩ => (Nat.lt_or_ge k a).elim (fun q => hb41 (Or.inr ⟨k, q, h0, e⟩)) (fun q => e (by rw [show k = a by omega]; exact hb64))))).symm
          · refine V_iconst (v := nI 1) d_Mo_otherFields_67 (by decide +kernel) ?_
            refine V_goto (tgt := 72) d_Mo_otherFields_68 (by decide) ?_
            refine V_istore_n d_Mo_otherFields_72 (Nat.le_of_ble_eq_true rfl) ?_
            show pV Γ _ _ [some (.ref m), some (.int (nI r)), some (.int (nI s)), some (.int (nI 1)), some (.int (nI a))] _ _ _ _ _ _
            refine V_iincN d_Mo_otherFields_73 rfl ?_
            show pV Γ _ _ [some (.ref m), some (.int (nI r)), some (.int (nI s)), some (.int (nI 1)), some (.int (nI (a + 1)))] _ _ _ _ _ _
            refine V_goto (tgt := 26) d_Mo_otherFields_76 (by decide) ?_
            exact ih (a + 1) (by omega) (by omega) _ (pB_t (p := dNf D ≠ dNf E ∨ ∃ k, k < a + 1 ∧ k < 3 * dNf D ∧ dF D k ≠ dF E k) (Or.inr ⟨a, by omega, by omega, hb64⟩)).symm
  refine V_aload_n d_Mo_otherFields_0 rfl ?_
  refine V_iload_n d_Mo_otherFields_1 rfl ?_
  refine V_bipush (v := nI 9) d_Mo_otherFields_2 (by decide +kernel) ?_
  refine V_callV (As := [.int (nI r), .int (nI 9)]) (rest := []) (lo' := [some (.ref m), some (.int (nI r)), some (.int (nI 9))]) (bc1 := 0) (bs1 := 0) (bc' := 0) (bs' := 0) d_Mo_otherFields_4 k_Mo_otherFields_69 hH rfl rfl rfl rfl (by rfl) (by rfl) ?_
  refine c_Mo_get hH hF (by omega) ?_
  rw [hr4]
  show pV Γ m_Mo_otherFields 7 [some (.ref m), some (.int (nI r)), some (.int (nI s)), none, none] [.int (nI (dNf D))] _ G 0 0 Q
  refine V_aload_n d_Mo_otherFields_7 rfl ?_
  refine V_iload_n d_Mo_otherFields_8 rfl ?_
  refine V_bipush (v := nI 9) d_Mo_otherFields_9 (by decide +kernel) ?_
  refine V_callV (As := [.int (nI s), .int (nI 9)]) (rest := [.int (nI (dNf D))]) (lo' := [some (.ref m), some (.int (nI s)), some (.int (nI 9))]) (bc1 := 0) (bs1 := 0) (bc' := 0) (bs' := 0) d_Mo_otherFields_11 k_Mo_otherFields_69 hH rfl rfl rfl rfl (by rfl) (by rfl) ?_
  refine c_Mo_get hH hF (by omega) ?_
  rw [hs4]
  show pV Γ m_Mo_otherFields 14 [some (.ref m), some (.int (nI r)), some (.int (nI s)), none, none] [.int (nI (dNf E)), .int (nI (dNf D))] _ G 0 0 Q
  refine V_icmp_eqN (tgt := 21) d_Mo_otherFields_14 (by decide) (by omega) (by omega) (fun hb14 => ?_) (fun hb14 => ?_)
  · refine V_iconst (v := nI 0) d_Mo_otherFields_21 (by decide +kernel) ?_
    refine V_istore_n d_Mo_otherFields_22 (Nat.le_of_ble_eq_true rfl) ?_
    show pV Γ _ _ [some (.ref m), some (.int (nI r)), some (.int (nI s)), some (.int (nI 0)), none] _ _ _ _ _ _
    refine V_iconst (v := nI 0) d_Mo_otherFields_23 (by decide +kernel) ?_
    refine V_istore d_Mo_otherFields_24 (Nat.le_of_ble_eq_true rfl) ?_
    show pV Γ _ _ [some (.ref m), some (.int (nI r)), some (.int (nI s)), some (.int (nI 0)), some (.int (nI 0))] _ _ _ _ _ _
    exact loop (3 * dNf D + 1) 0 (by omega) (by omega) _ (pB_f (fun e => e.elim (fun e => e hb14) (fun ⟨k, hk, _⟩ => absurd hk (by omega)))).symm
  · refine V_iconst (v := nI 1) d_Mo_otherFields_17 (by decide +kernel) ?_
    refine V_goto (tgt := 22) d_Mo_otherFields_18 (by decide) ?_
    refine V_istore_n d_Mo_otherFields_22 (Nat.le_of_ble_eq_true rfl) ?_
    show pV Γ _ _ [some (.ref m), some (.int (nI r)), some (.int (nI s)), some (.int (nI 1)), none] _ _ _ _ _ _
    refine V_iconst (v := nI 0) d_Mo_otherFields_23 (by decide +kernel) ?_
    refine V_istore d_Mo_otherFields_24 (Nat.le_of_ble_eq_true rfl) ?_
    show pV Γ _ _ [some (.ref m), some (.int (nI r)), some (.int (nI s)), some (.int (nI 1)), some (.int (nI 0))] _ _ _ _ _ _
    exact loop (3 * dNf D + 1) 0 (by omega) (by omega) _ (pB_t (Or.inl hb14)).symm
set_option maxHeartbeats 1000000 in
theorem c_Mo_moreMethods {Γ : pmE} {G : pmG} {n : Nat} {Q : pmPost} {m : Nat} {ch ba : Int32} {f : Nat → Int32} {r s : Nat} {D E : Dfn} (hH : G m = some (.inr (kMo, moFs m ch ba))) (hF : G (m + 1) = some (.inl (0, 4387, .inl f))) (hr : r < 41) (hs : s < 41) (hR : isRow f r D) (hS : isRow f s E) (hQ : Q (some (.int (pB (¬ pNms E D)))) n G) : pV Γ m_Mo_moreMethods 0 [some (.ref m), some (.int (nI r)), some (.int (nI s)), none, none] [] n G 0 0 Q := by
  have hS0 := hS
  obtain ⟨⟨o1, o2, o3, o4⟩, hr1, hr2, hr3, hr4, hr5, hr7, hr8⟩ := hR
  obtain ⟨⟨p1, p2, p3, p4⟩, hs1, hs2, hs3, hs4, hs5, hs7, hs8⟩ := hS
  have loop : ∀ (d a : Nat), a ≤ dNm D → dNm D - a < d → ∀ x3 : Int32, x3 = pB (∃ k, k < a ∧ ∀ j, j < dNm E → dN E j ≠ dN D k) → pV Γ m_Mo_moreMethods 5 [some (.ref m), some (.int (nI r)), some (.int (nI s)), some (.int x3), some (.int (nI a))] [] n G 0 0 Q := by
    intro d
    induction d with
    | zero => intro a _ hd; exact absurd hd (by omega)
    | succ d ih =>
      intro a hi hd x3 h3
      subst h3
      refine V_iload d_Mo_moreMethods_5 rfl ?_
      refine V_aload_n d_Mo_moreMethods_7 rfl ?_
      refine V_iload_n d_Mo_moreMethods_8 rfl ?_
      refine V_bipush (v := nI 22) d_Mo_moreMethods_9 (by decide +kernel) ?_
      refine V_callV (As := [.int (nI r), .int (nI 22)]) (rest := [.int (nI a)]) (lo' := [some (.ref m), some (.int (nI r)), some (.int (nI 22))]) (bc1 := 0) (bs1 := 0) (bc' := 0) (bs' := 0) d_Mo_moreMethods_11 k_Mo_moreMethods_69 hH rfl rfl rfl rfl (by rfl) (by rfl) ?_
      refine c_Mo_get hH hF (by omega) ?_
      rw [hr7]
      show pV Γ m_Mo_moreMethods 14 [some (.ref m), some (.int (nI r)), some (.int (nI s)), some (.int (pB (∃ k, k < a ∧ ∀ j, j < dNm E → dN E j ≠ dN D k))), some (.int (nI a))] [.int (nI (dNm D)), .int (nI a)] _ G 0 0 Q
      refine V_icmp_geN (tgt := 52) d_Mo_moreMethods_14 (by decide) (by omega) (by omega) (fun hb14 => ?_) (fun hb14 => ?_)
      · refine V_iload_n d_Mo_moreMethods_52 rfl ?_
        exact V_zreturn d_Mo_moreMethods_53 rfl (by first | exact pB_or _ | exact Or.inl rfl | exact Or.inr rfl) (by rw [pB_c (onms (by omega))]; exact hQ)
      · refine V_iload_n d_Mo_moreMethods_17 rfl ?_
        refine V_if_neB (tgt := 40) d_Mo_moreMethods_18 (by decide) (fun hb18 => ?_) (fun hb18 => ?_)
        · refine V_iconst (v := nI 1) d_Mo_moreMethods_40 (by decide +kernel) ?_
          refine V_goto (tgt := 45) d_Mo_moreMethods_41 (by decide) ?_
          refine V_istore_n d_Mo_moreMethods_45 (Nat.le_of_ble_eq_true rfl) ?_
          show pV Γ _ _ [some (.ref m), some (.int (nI r)), some (.int (nI s)), some (.int (nI 1)), some (.int (nI a))] _ _ _ _ _ _
          refine V_iincN d_Mo_moreMethods_46 rfl ?_
          show pV Γ _ _ [some (.ref m), some (.int (nI r)), some (.int (nI s)), some (.int (nI 1)), some (.int (nI (a + 1)))] _ _ _ _ _ _
          refine V_goto (tgt := 5) d_Mo_moreMethods_49 (by decide) ?_
          exact ih (a + 1) (by omega) (by omega) _ (pB_t (p := ∃ k, k < a + 1 ∧ ∀ j, j < dNm E → dN E j ≠ dN D k) (by first | exact hb18.elim (fun k h => ⟨k, by omega, h.2⟩) | exact ⟨a, by omega, hn⟩)).symm
        · refine V_aload_n d_Mo_moreMethods_21 rfl ?_
          refine V_iload_n d_Mo_moreMethods_22 rfl ?_
          refine V_aload_n d_Mo_moreMethods_23 rfl ?_
          refine V_iload_n d_Mo_moreMethods_24 rfl ?_
          refine V_iload d_Mo_moreMethods_25 rfl ?_
          refine V_callS (As := [.int (nI a)]) (rest := [.int (nI r), .ref m, .int (nI s), .ref m]) (lo' := [some (.int (nI a))]) (bc1 := 0) (bs1 := 0) (bc' := 0) (bs' := 0) d_Mo_moreMethods_27 k_Mo_moreMethods_85 rfl rfl rfl rfl (by rfl) (by rfl) ?_
          refine c_Mo_methodAt ?_
          show pV Γ m_Mo_moreMethods 30 [some (.ref m), some (.int (nI r)), some (.int (nI s)), some (.int (pB (∃ k, k < a ∧ ∀ j, j < dNm E → dN E j ≠ dN D k))), some (.int (nI a))] [.int (nI (23 + 21 * a)), .int (nI r), .ref m, .int (nI s), .ref m] _ G 0 0 Q
          refine V_callV (As := [.int (nI r), .int (nI (23 + 21 * a))]) (rest := [.int (nI s), .ref m]) (lo' := [some (.ref m), some (.int (nI r)), some (.int (nI (23 + 21 * a)))]) (bc1 := 0) (bs1 := 0) (bc' := 0) (bs' := 0) d_Mo_moreMethods_30 k_Mo_moreMethods_69 hH rfl rfl rfl rfl (by rfl) (by rfl) ?_
          refine c_Mo_get hH hF (by omega) ?_
          rw [(hr8 a (by omega)).1]
          show pV Γ m_Mo_moreMethods 33 [some (.ref m), some (.int (nI r)), some (.int (nI s)), some (.int (pB (∃ k, k < a ∧ ∀ j, j < dNm E → dN E j ≠ dN D k))), some (.int (nI a))] [.int ((dN D a)), .int (nI s), .ref m] _ G 0 0 Q
          refine V_callV (As := [.int (nI s), .int ((dN D a))]) (rest := []) (lo' := [some (.ref m), some (.int (nI s)), some (.int ((dN D a))), none]) (bc1 := 0) (bs1 := 0) (bc' := 0) (bs' := 0) d_Mo_moreMethods_33 k_Mo_moreMethods_89 hH rfl rfl rfl rfl (by rfl) (by rfl) ?_
          refine c_Mo_find hH hF hs hS0 (fun hn => ?_) (fun j hj => ?_)
          · show pV Γ m_Mo_moreMethods 36 [some (.ref m), some (.int (nI r)), some (.int (nI s)), some (.int (pB (∃ k, k < a ∧ ∀ j, j < dNm E → dN E j ≠ dN D k))), some (.int (nI a))] [.int ((-1))] _ G 0 0 Q
            refine V_iconst (v := (-1)) d_Mo_moreMethods_36 (by decide +kernel) ?_
            refine V_icmp_ne (tgt := 44) d_Mo_moreMethods_37 (by decide) (fun e => absurd rfl e) (fun _ => ?_)
            refine V_iconst (v := nI 1) d_Mo_moreMethods_40 (by decide +kernel) ?_
            refine V_goto (tgt := 45) d_Mo_moreMethods_41 (by decide) ?_
            refine V_istore_n d_Mo_moreMethods_45 (Nat.le_of_ble_eq_true rfl) ?_
            show pV Γ _ _ [some (.ref m), some (.int (nI r)), some (.int (nI s)), some (.int (nI 1)), some (.int (nI a))] _ _ _ _ _ _
            refine V_iincN d_Mo_moreMethods_46 rfl ?_
            show pV Γ _ _ [some (.ref m), some (.int (nI r)), some (.int (nI s)), some (.int (nI 1)), some (.int (nI (a + 1)))] _ _ _ _ _ _
            refine V_goto (tgt := 5) d_Mo_moreMethods_49 (by decide) ?_
            exact ih (a + 1) (by omega) (by omega) _ (pB_t (p := ∃ k, k < a + 1 ∧ ∀ j, j < dNm E → dN E j ≠ dN D k) (by first | exact hb18.elim (fun k h => ⟨k, by omega, h.2⟩) | exact ⟨a, by omega, hn⟩)).symm
          · have hj4 : j < 4 := Nat.lt_of_lt_of_le hj.1 p3
            show pV Γ m_Mo_moreMethods 36 [some (.ref m), some (.int (nI r)), some (.int (nI s)), some (.int (pB (∃ k, k < a ∧ ∀ j, j < dNm E → dN E j ≠ dN D k))), some (.int (nI a))] [.int (nI (23 + 21 * j))] _ G 0 0 Q
            refine V_iconst (v := (-1)) d_Mo_moreMethods_36 (by decide +kernel) ?_
            refine V_icmp_ne (tgt := 44) d_Mo_moreMethods_37 (by decide) (fun _ => ?_) (fun e => absurd e (nI_ne1 (by omega)))
            refine V_iconst (v := nI 0) d_Mo_moreMethods_44 (by decide +kernel) ?_
            refine V_istore_n d_Mo_moreMethods_45 (Nat.le_of_ble_eq_true rfl) ?_
            show pV Γ _ _ [some (.ref m), some (.int (nI r)), some (.int (nI s)), some (.int (nI 0)), some (.int (nI a))] _ _ _ _ _ _
            refine V_iincN d_Mo_moreMethods_46 rfl ?_
            show pV Γ _ _ [some (.ref m), some (.int (nI r)), some (.int (nI s)), some (.int (nI 0)), some (.int (nI (a + 1)))] _ _ _ _ _ _
            refine V_goto (tgt := 5) d_Mo_moreMethods_49 (by decide) ?_
            exact ih (a + 1) (by omega) (by omega) _ (pB_f (p := ∃ k, k < a + 1 ∧ ∀ j, j < dNm E → dN E j ≠ dN D k) (fun ⟨k, hk, e⟩ => (Nat.lt_or_ge k a).elim (fun q => hb18 ⟨k, q, e⟩) (fun q => e j hj.1 (by rw [show k = a by omega]; exact hj.2.1)))).symm
  refine V_iconst (v := nI 0) d_Mo_moreMethods_0 (by decide +kernel) ?_
  refine V_istore_n d_Mo_moreMethods_1 (Nat.le_of_ble_eq_true rfl) ?_
  show pV Γ _ _ [some (.ref m), some (.int (nI r)), some (.int (nI s)), some (.int (nI 0)), none] _ _ _ _ _ _
  refine V_iconst (v := nI 0) d_Mo_moreMethods_2 (by decide +kernel) ?_
  refine V_istore d_Mo_moreMethods_3 (Nat.le_of_ble_eq_true rfl) ?_
  show pV Γ _ _ [some (.ref m), some (.int (nI r)), some (.int (nI s)), some (.int (nI 0)), some (.int (nI 0))] _ _ _ _ _ _
  exact loop (dNm D + 1) 0 (by omega) (by omega) _ (pB_f (fun ⟨k, hk, _⟩ => absurd hk (by omega))).symm
theorem dFst_u {D : Dfn} {x : Int32} {i j : Nat} (h : dFst D x i) (k : dFst D x j) : i = j := by
  rcases Nat.lt_trichotomy i j with q | q | q
  · exact absurd h.2.1 (k.2.2 i q)
  · exact q
  · exact absurd k.2.1 (h.2.2 j q)
set_option maxHeartbeats 1000000 in
theorem c_Mo_otherMethodFlags {Γ : pmE} {G : pmG} {n : Nat} {Q : pmPost} {m : Nat} {ch ba : Int32} {f : Nat → Int32} {r s : Nat} {D E : Dfn} (hH : G m = some (.inr (kMo, moFs m ch ba))) (hF : G (m + 1) = some (.inl (0, 4387, .inl f))) (hr : r < 41) (hs : s < 41) (hR : isRow f r D) (hS : isRow f s E) (hdD : ¬ pDup (dNm D) (dN D)) (hdE : ¬ pDup (dNm E) (dN E)) (hQ : Q (some (.int (pB (¬ pFlg D E)))) n G) : pV Γ m_Mo_otherMethodFlags 0 [some (.ref m), some (.int (nI r)), some (.int (nI s)), none, none, none, none] [] n G 0 0 Q := by
  have hS0 := hS
  obtain ⟨⟨o1, o2, o3, o4⟩, hr1, hr2, hr3, hr4, hr5, hr7, hr8⟩ := hR
  obtain ⟨⟨p1, p2, p3, p4⟩, hs1, hs2, hs3, hs4, hs5, hs7, hs8⟩ := hS
  have loop : ∀ (d a : Nat), a ≤ dNm D → dNm D - a < d → ∀ (x3 : Int32) (w5 w6 : Option Value), x3 = pB (∃ k, k < a ∧ ∃ j, dFst E (dN D k) j ∧ dG D k ≠ dG E j) → pV Γ m_Mo_otherMethodFlags 5 [some (.ref m), some (.int (nI r)), some (.int (nI s)), some (.int x3), some (.int (nI a)), w5, w6] [] n G 0 0 Q := by
    intro d
    induction d with
    | zero => intro a _ hd; exact absurd hd (by omega)
    | succ d ih =>
      intro a hi hd x3 w5 w6 h3
      subst h3
      refine V_iload d_Mo_otherMethodFlags_5 rfl ?_
      refine V_aload_n d_Mo_otherMethodFlags_7 rfl ?_
      refine V_iload_n d_Mo_otherMethodFlags_8 rfl ?_
      refine V_bipush (v := nI 22) d_Mo_otherMethodFlags_9 (by decide +kernel) ?_
      refine V_callV (As := [.int (nI r), .int (nI 22)]) (rest := [.int (nI a)]) (lo' := [some (.ref m), some (.int (nI r)), some (.int (nI 22))]) (bc1 := 0) (bs1 := 0) (bc' := 0) (bs' := 0) d_Mo_otherMethodFlags_11 k_Mo_otherMethodFlags_69 hH rfl rfl rfl rfl (by rfl) (by rfl) ?_
      refine c_Mo_get hH hF (by omega) ?_
      rw [hr7]
      show pV Γ m_Mo_otherMethodFlags 14 [some (.ref m), some (.int (nI r)), some (.int (nI s)), some (.int (pB (∃ k, k < a ∧ ∃ j, dFst E (dN D k) j ∧ dG D k ≠ dG E j))), some (.int (nI a)), w5, w6] [.int (nI (dNm D)), .int (nI a)] _ G 0 0 Q
      refine V_icmp_geN (tgt := 81) d_Mo_otherMethodFlags_14 (by decide) (by omega) (by omega) (fun hb14 => ?_) (fun hb14 => ?_)
      · refine V_iload_n d_Mo_otherMethodFlags_81 rfl ?_
        exact V_zreturn d_Mo_otherMethodFlags_82 rfl (by first | exact pB_or _ | exact Or.inl rfl | exact Or.inr rfl) (by rw [pB_c (oflg (by omega) hdD hdE)]; exact hQ)
      · refine V_iload d_Mo_otherMethodFlags_17 rfl ?_
        refine V_callS (As := [.int (nI a)]) (rest := []) (lo' := [some (.int (nI a))]) (bc1 := 0) (bs1 := 0) (bc' := 0) (bs' := 0) d_Mo_otherMethodFlags_19 k_Mo_otherMethodFlags_85 rfl rfl rfl rfl (by rfl) (by rfl) ?_
        refine c_Mo_methodAt ?_
        show pV Γ m_Mo_otherMethodFlags 22 [some (.ref m), some (.int (nI r)), some (.int (nI s)), some (.int (pB (∃ k, k < a ∧ ∃ j, dFst E (dN D k) j ∧ dG D k ≠ dG E j))), some (.int (nI a)), w5, w6] [.int (nI (23 + 21 * a))] _ G 0 0 Q
        refine V_istore d_Mo_otherMethodFlags_22 (Nat.le_of_ble_eq_true rfl) ?_
        show pV Γ _ _ [some (.ref m), some (.int (nI r)), some (.int (nI s)), some (.int (pB (∃ k, k < a ∧ ∃ j, dFst E (dN D k) j ∧ dG D k ≠ dG E j))), some (.int (nI a)), some (.int (nI (23 + 21 * a))), w6] _ _ _ _ _ _
        refine V_aload_n d_Mo_otherMethodFlags_24 rfl ?_
        refine V_iload_n d_Mo_otherMethodFlags_25 rfl ?_
        refine V_aload_n d_Mo_otherMethodFlags_26 rfl ?_
        refine V_iload_n d_Mo_otherMethodFlags_27 rfl ?_
        refine V_iload d_Mo_otherMethodFlags_28 rfl ?_
        refine V_callV (As := [.int (nI r), .int (nI (23 + 21 * a))]) (rest := [.int (nI s), .ref m]) (lo' := [some (.ref m), some (.int (nI r)), some (.int (nI (23 + 21 * a)))]) (bc1 := 0) (bs1 := 0) (bc' := 0) (bs' := 0) d_Mo_otherMethodFlags_30 k_Mo_otherMethodFlags_69 hH rfl rfl rfl rfl (by rfl) (by rfl) ?_
        refine c_Mo_get hH hF (by omega) ?_
        rw [(hr8 a (by omega)).1]
        show pV Γ m_Mo_otherMethodFlags 33 [some (.ref m), some (.int (nI r)), some (.int (nI s)), some (.int (pB (∃ k, k < a ∧ ∃ j, dFst E (dN D k) j ∧ dG D k ≠ dG E j))), some (.int (nI a)), some (.int (nI (23 + 21 * a))), w6] [.int ((dN D a)), .int (nI s), .ref m] _ G 0 0 Q
        refine V_callV (As := [.int (nI s), .int ((dN D a))]) (rest := []) (lo' := [some (.ref m), some (.int (nI s)), some (.int ((dN D a))), none]) (bc1 := 0) (bs1 := 0) (bc' := 0) (bs' := 0) d_Mo_otherMethodFlags_33 k_Mo_otherMethodFlags_89 hH rfl rfl rfl rfl (by rfl) (by rfl) ?_
        refine c_Mo_find hH hF hs hS0 (fun hn => ?_) (fun j hj => ?_)
        · show pV Γ m_Mo_otherMethodFlags 36 [some (.ref m), some (.int (nI r)), some (.int (nI s)), some (.int (pB (∃ k, k < a ∧ ∃ j, dFst E (dN D k) j ∧ dG D k ≠ dG E j))), some (.int (nI a)), some (.int (nI (23 + 21 * a))), w6] [.int ((-1))] _ G 0 0 Q
          refine V_istore d_Mo_otherMethodFlags_36 (Nat.le_of_ble_eq_true rfl) ?_
          show pV Γ _ _ [some (.ref m), some (.int (nI r)), some (.int (nI s)), some (.int (pB (∃ k, k < a ∧ ∃ j, dFst E (dN D k) j ∧ dG D k ≠ dG E j))), some (.int (nI a)), some (.int (nI (23 + 21 * a))), some (.int ((-1)))] _ _ _ _ _ _
          refine V_iload_n d_Mo_otherMethodFlags_38 rfl ?_
          refine V_if_neB (tgt := 69) d_Mo_otherMethodFlags_39 (by decide) (fun hb39 => ?_) (fun hb39 => ?_)
          · refine V_iconst (v := nI 1) d_Mo_otherMethodFlags_69 (by decide +kernel) ?_
            refine V_goto (tgt := 74) d_Mo_otherMethodFlags_70 (by decide) ?_
            refine V_istore_n d_Mo_otherMethodFlags_74 (Nat.le_of_ble_eq_true rfl) ?_
            show pV Γ _ _ [some (.ref m), some (.int (nI r)), some (.int (nI s)), some (.int (nI 1)), some (.int (nI a)), some (.int (nI (23 + 21 * a))), some (.int ((-1)))] _ _ _ _ _ _
            refine V_iincN d_Mo_otherMethodFlags_75 rfl ?_
            show pV Γ _ _ [some (.ref m), some (.int (nI r)), some (.int (nI s)), some (.int (nI 1)), some (.int (nI (a + 1))), some (.int (nI (23 + 21 * a))), some (.int ((-1)))] _ _ _ _ _ _
            refine V_goto (tgt := 5) d_Mo_otherMethodFlags_78 (by decide) ?_
            exact ih (a + 1) (by omega) (by omega) _ _ _ (pB_t (p := ∃ k, k < a + 1 ∧ ∃ j, dFst E (dN D k) j ∧ dG D k ≠ dG E j) (by first | exact hb39.elim (fun k h => ⟨k, by omega, h.2⟩) | exact ⟨a, by omega, j, hj, hb66⟩)).symm
          · refine V_iload d_Mo_otherMethodFlags_42 rfl ?_
            refine V_iconst (v := (-1)) d_Mo_otherMethodFlags_44 (by decide +kernel) ?_
            refine V_icmp_eq (tgt := 73) d_Mo_otherMethodFlags_45 (by decide) (fun _ => ?_) (fun e => absurd rfl e)
            refine V_iconst (v := nI 0) d_Mo_otherMethodFlags_73 (by decide +kernel) ?_
            refine V_istore_n d_Mo_otherMethodFlags_74 (Nat.le_of_ble_eq_true rfl) ?_
            show pV Γ _ _ [some (.ref m), some (.int (nI r)), some (.int (nI s)), some (.int (nI 0)), some (.int (nI a)), some (.int (nI (23 + 21 * a))), some (.int ((-1)))] _ _ _ _ _ _
            refine V_iincN d_Mo_otherMethodFlags_75 rfl ?_
            show pV Γ _ _ [some (.ref m), some (.int (nI r)), some (.int (nI s)), some (.int (nI 0)), some (.int (nI (a + 1))), some (.int (nI (23 + 21 * a))), some (.int ((-1)))] _ _ _ _ _ _
            refine V_goto (tgt := 5) d_Mo_otherMethodFlags_78 (by decide) ?_
            exact ih (a + 1) (by omega) (by omega) _ _ _ (pB_f (p := ∃ k, k < a + 1 ∧ ∃ j, dFst E (dN D k) j ∧ dG D k ≠ dG E j) (fun ⟨k, hk, j, e1, e2⟩ => (Nat.lt_or_ge k a).elim (fun q => hb39 ⟨k, q, j, e1, e2⟩) (fun q => hn j e1.1 (by rw [show a = k by omega]; exact e1.2.1)))).symm
        · have hj4 : j < 4 := Nat.lt_of_lt_of_le hj.1 p3
          show pV Γ m_Mo_otherMethodFlags 36 [some (.ref m), some (.int (nI r)), some (.int (nI s)), some (.int (pB (∃ k, k < a ∧ ∃ j, dFst E (dN D k) j ∧ dG D k ≠ dG E j))), some (.int (nI a)), some (.int (nI (23 + 21 * a))), w6] [.int (nI (23 + 21 * j))] _ G 0 0 Q
          refine V_istore d_Mo_otherMethodFlags_36 (Nat.le_of_ble_eq_true rfl) ?_
          show pV Γ _ _ [some (.ref m), some (.int (nI r)), some (.int (nI s)), some (.int (pB (∃ k, k < a ∧ ∃ j, dFst E (dN D k) j ∧ dG D k ≠ dG E j))), some (.int (nI a)), some (.int (nI (23 + 21 * a))), some (.int (nI (23 + 21 * j)))] _ _ _ _ _ _
          refine V_iload_n d_Mo_otherMethodFlags_38 rfl ?_
          refine V_if_neB (tgt := 69) d_Mo_otherMethodFlags_39 (by decide) (fun hb39 => ?_) (fun hb39 => ?_)
          · refine V_iconst (v := nI 1) d_Mo_otherMethodFlags_69 (by decide +kernel) ?_
            refine V_goto (tgt := 74) d_Mo_otherMethodFlags_70 (by decide) ?_
            refine V_istore_n d_Mo_otherMethodFlags_74 (Nat.le_of_ble_eq_true rfl) ?_
            show pV Γ _ _ [some (.ref m), some (.int (nI r)), some (.int (nI s)), some (.int (nI 1)), some (.int (nI a)), some (.int (nI (23 + 21 * a))), some (.int (nI (23 + 21 * j)))] _ _ _ _ _ _
            refine V_iincN d_Mo_otherMethodFlags_75 rfl ?_
            show pV Γ _ _ [some (.ref m), some (.int (nI r)), some (.int (nI s)), some (.int (nI 1)), some (.int (nI (a + 1))), some (.int (nI (23 + 21 * a))), some (.int (nI (23 + 21 * j)))] _ _ _ _ _ _
            refine V_goto (tgt := 5) d_Mo_otherMethodFlags_78 (by decide) ?_
            exact ih (a + 1) (by omega) (by omega) _ _ _ (pB_t (p := ∃ k, k < a + 1 ∧ ∃ j, dFst E (dN D k) j ∧ dG D k ≠ dG E j) (by first | exact hb39.elim (fun k h => ⟨k, by omega, h.2⟩) | exact ⟨a, by omega, j, hj, hb66⟩)).symm
          · refine V_iload d_Mo_otherMethodFlags_42 rfl ?_
            refine V_iconst (v := (-1)) d_Mo_otherMethodFlags_44 (by decide +kernel) ?_
            refine V_icmp_eq (tgt := 73) d_Mo_otherMethodFlags_45 (by decide) (fun e => absurd e (nI_ne1 (by omega))) (fun _ => ?_)
            refine V_aload_n d_Mo_otherMethodFlags_48 rfl ?_
            refine V_iload_n d_Mo_otherMethodFlags_49 rfl ?_
            refine V_iload d_Mo_otherMethodFlags_50 rfl ?_
            refine V_iconst (v := nI 1) d_Mo_otherMethodFlags_52 (by decide +kernel) ?_
            refine V_iaddN d_Mo_otherMethodFlags_53 ?_
            refine V_callV (As := [.int (nI r), .int (nI (23 + 21 * a + 1))]) (rest := []) (lo' := [some (.ref m), some (.int (nI r)), some (.int (nI (23 + 21 * a + 1)))]) (bc1 := 0) (bs1 := 0) (bc' := 0) (bs' := 0) d_Mo_otherMethodFlags_54 k_Mo_otherMethodFlags_69 hH rfl rfl rfl rfl (by rfl) (by rfl) ?_
            refine c_Mo_get hH hF (by omega) ?_
            rw [(hr8 a (by omega)).2.1]
            show pV Γ m_Mo_otherMethodFlags 57 [some (.ref m), some (.int (nI r)), some (.int (nI s)), some (.int (pB (∃ k, k < a ∧ ∃ j, dFst E (dN D k) j ∧ dG D k ≠ dG E j))), some (.int (nI a)), some (.int (nI (23 + 21 * a))), some (.int (nI (23 + 21 * j)))] [.int ((dG D a))] _ G 0 0 Q
            refine V_aload_n d_Mo_otherMethodFlags_57 rfl ?_
            refine V_iload_n d_Mo_otherMethodFlags_58 rfl ?_
            refine V_iload d_Mo_otherMethodFlags_59 rfl ?_
            refine V_iconst (v := nI 1) d_Mo_otherMethodFlags_61 (by decide +kernel) ?_
            refine V_iaddN d_Mo_otherMethodFlags_62 ?_
            refine V_callV (As := [.int (nI s), .int (nI (23 + 21 * j + 1))]) (rest := [.int ((dG D a))]) (lo' := [some (.ref m), some (.int (nI s)), some (.int (nI (23 + 21 * j + 1)))]) (bc1 := 0) (bs1 := 0) (bc' := 0) (bs' := 0) d_Mo_otherMethodFlags_63 k_Mo_otherMethodFlags_69 hH rfl rfl rfl rfl (by rfl) (by rfl) ?_
            refine c_Mo_get hH hF (by omega) ?_
            rw [(hs8 j hj.1).2.1]
            show pV Γ m_Mo_otherMethodFlags 66 [some (.ref m), some (.int (nI r)), some (.int (nI s)), some (.int (pB (∃ k, k < a ∧ ∃ j, dFst E (dN D k) j ∧ dG D k ≠ dG E j))), some (.int (nI a)), some (.int (nI (23 + 21 * a))), some (.int (nI (23 + 21 * j)))] [.int ((dG E j)), .int ((dG D a))] _ G 0 0 Q
            refine V_icmp_eq (tgt := 73) d_Mo_otherMethodFlags_66 (by decide) (fun hb66 => ?_) (fun hb66 => ?_)
            · refine V_iconst (v := nI 0) d_Mo_otherMethodFlags_73 (by decide +kernel) ?_
              refine V_istore_n d_Mo_otherMethodFlags_74 (Nat.le_of_ble_eq_true rfl) ?_
              show pV Γ _ _ [some (.ref m), some (.int (nI r)), some (.int (nI s)), some (.int (nI 0)), some (.int (nI a)), some (.int (nI (23 + 21 * a))), some (.int (nI (23 + 21 * j)))] _ _ _ _ _ _
              refine V_iincN d_Mo_otherMethodFlags_75 rfl ?_
              show pV Γ _ _ [some (.ref m), some (.int (nI r)), some (.int (nI s)), some (.int (nI 0)), some (.int (nI (a + 1))), some (.int (nI (23 + 21 * a))), some (.int (nI (23 + 21 * j)))] _ _ _ _ _ _
              refine V_goto (tgt := 5) d_Mo_otherMethodFlags_78 (by decide) ?_
              exact ih (a + 1) (by omega) (by omega) _ _ _ (pB_f (p := ∃ k, k < a + 1 ∧ ∃ j, dFst E (dN D k) j ∧ dG D k ≠ dG E j) (fun ⟨k, hk, j', e1, e2⟩ => (Nat.lt_or_ge k a).elim (fun q => hb39 ⟨k, q, j', e1, e2⟩) (fun q => by rw [show k = a by omega] at e1 e2; rw [dFst_u e1 hj] at e2; exact e2 hb66))).symm
            · refine V_iconst (v := nI 1) d_Mo_otherMethodFlags_69 (by decide +kernel) ?_
              refine V_goto (tgt := 74) d_Mo_otherMethodFlags_70 (by decide) ?_
              refine V_istore_n d_Mo_otherMethodFlags_74 (Nat.le_of_ble_eq_true rfl) ?_
              show pV Γ _ _ [some (.ref m), some (.int (nI r)), some (.int (nI s)), some (.int (nI 1)), some (.int (nI a)), some (.int (nI (23 + 21 * a))), some (.int (nI (23 + 21 * j)))] _ _ _ _ _ _
              refine V_iincN d_Mo_otherMethodFlags_75 rfl ?_
              show pV Γ _ _ [some (.ref m), some (.int (nI r)), some (.int (nI s)), some (.int (nI 1)), some (.int (nI (a + 1))), some (.int (nI (23 + 21 * a))), some (.int (nI (23 + 21 * j)))] _ _ _ _ _ _
              refine V_goto (tgt := 5) d_Mo_otherMethodFlags_78 (by decide) ?_
              exact ih (a + 1) (by omega) (by omega) _ _ _ (pB_t (p := ∃ k, k < a + 1 ∧ ∃ j, dFst E (dN D k) j ∧ dG D k ≠ dG E j) (by first | exact hb39.elim (fun k h => ⟨k, by omega, h.2⟩) | exact ⟨a, by omega, j, hj, hb66⟩)).symm
  refine V_iconst (v := nI 0) d_Mo_otherMethodFlags_0 (by decide +kernel) ?_
  refine V_istore_n d_Mo_otherMethodFlags_1 (Nat.le_of_ble_eq_true rfl) ?_
  show pV Γ _ _ [some (.ref m), some (.int (nI r)), some (.int (nI s)), some (.int (nI 0)), none, none, none] _ _ _ _ _ _
  refine V_iconst (v := nI 0) d_Mo_otherMethodFlags_2 (by decide +kernel) ?_
  refine V_istore d_Mo_otherMethodFlags_3 (Nat.le_of_ble_eq_true rfl) ?_
  show pV Γ _ _ [some (.ref m), some (.int (nI r)), some (.int (nI s)), some (.int (nI 0)), some (.int (nI 0)), none, none] _ _ _ _ _ _
  exact loop (dNm D + 1) 0 (by omega) (by omega) _ _ _ (pB_f (fun ⟨k, hk, _⟩ => absurd hk (by omega))).symm
theorem pAlone_dup {ld : LdS} {D : Dfn} (h : pAlone ld D = 0) : ¬ pDup (dNm D) (dN D) := fun e => by
  unfold pAlone at h
  by_cases h1 : dP D 0 < nI 1 ∨ nI 9 < dP D 0
  · rw [pI_t h1] at h; exact absurd h (by omega)
  · rw [pI_f h1, pI_t (Or.inr (Or.inr (Or.inl e)))] at h; exact absurd h (by omega)
set_option maxHeartbeats 1000000 in
theorem c_Mo_rules {Γ : pmE} {G : pmG} {n : Nat} {Q : pmPost} {m : Nat} {ch ba : Int32} {f : Nat → Int32} {cu : Nat → Nat} {r c : Nat} {D : Dfn} {ld : LdS} {L : Nat × Dfn × Dfn} (hH : G m = some (.inr (kMo, moFs m ch ba))) (hF : G (m + 1) = some (.inl (0, 4387, .inl f))) (hCu : G (m + 2) = some (.inl (0, 6, .inl (fun j => nI (cu j))))) (hr : r < 41) (hc : c < 6) (hl : ld c = some L) (hR : isRow f r D) (hL : moL f cu ld) (hdE : ¬ pDup (dNm L.2.1) (dN L.2.1)) (hQ : Q (some (.int (nI (pRule ld D (nI c) L.2.1)))) n G) : pV Γ m_Mo_rules 0 [some (.ref m), some (.int (nI r)), some (.int (nI c)), none, none] [] n G 0 0 Q := by
  have hal := pAlone_le ld D
  obtain ⟨k1, k2, hS⟩ := (hL c hc).1 L hl
  refine V_aload_n d_Mo_rules_0 rfl ?_
  refine V_iload_n d_Mo_rules_1 rfl ?_
  refine V_callV (As := [.int (nI r)]) (rest := []) (lo' := [some (.ref m), some (.int (nI r)), none, none]) (bc1 := 0) (bs1 := 0) (bc' := 0) (bs' := 0) d_Mo_rules_2 k_Mo_rules_112 hH rfl rfl rfl rfl (by rfl) (by rfl) ?_
  refine c_Mo_plainRules hH hF hCu hr hR hL ?_
  show pV Γ m_Mo_rules 5 [some (.ref m), some (.int (nI r)), some (.int (nI c)), none, none] [.int (nI (pAlone ld D))] _ G 0 0 Q
  refine V_istore_n d_Mo_rules_5 (Nat.le_of_ble_eq_true rfl) ?_
  show pV Γ _ _ [some (.ref m), some (.int (nI r)), some (.int (nI c)), some (.int (nI (pAlone ld D))), none] _ _ _ _ _ _
  refine V_iload_n d_Mo_rules_6 rfl ?_
  refine V_if_leN (tgt := 12) d_Mo_rules_7 (by decide) (by omega) (fun hb7 => ?_) (fun hb7 => ?_)
  · refine V_aload_n d_Mo_rules_12 rfl ?_
    refine V_getf d_Mo_rules_13 f_Mo_17 hH rfl ?_
    refine V_iload_n d_Mo_rules_16 rfl ?_
    have hdD := pAlone_dup hb7
    refine V_iaload (j := c) d_Mo_rules_17 rfl hCu rfl hc (by omega) ?_
    show pV Γ _ _ _ (.int (nI (cu c)) :: _) _ _ _ _ _
    refine V_istore d_Mo_rules_18 (Nat.le_of_ble_eq_true rfl) ?_
    show pV Γ _ _ [some (.ref m), some (.int (nI r)), some (.int (nI c)), some (.int (nI (pAlone ld D))), some (.int (nI (cu c)))] _ _ _ _ _ _
    refine V_aload_n d_Mo_rules_20 rfl ?_
    refine V_iload_n d_Mo_rules_21 rfl ?_
    refine V_iconst (v := nI 1) d_Mo_rules_22 (by decide +kernel) ?_
    refine V_callV (As := [.int (nI r), .int (nI 1)]) (rest := []) (lo' := [some (.ref m), some (.int (nI r)), some (.int (nI 1))]) (bc1 := 0) (bs1 := 0) (bc' := 0) (bs' := 0) d_Mo_rules_23 k_Mo_rules_69 hH rfl rfl rfl rfl (by rfl) (by rfl) ?_
    refine c_Mo_get hH hF (by omega) ?_
    rw [hR.2.1 1 (by omega)]
    show pV Γ m_Mo_rules 26 [some (.ref m), some (.int (nI r)), some (.int (nI c)), some (.int (nI (pAlone ld D))), some (.int (nI (cu c)))] [.int ((dP D 1))] _ G 0 0 Q
    refine V_iload_n d_Mo_rules_26 rfl ?_
    refine V_icmp_eq (tgt := 32) d_Mo_rules_27 (by decide) (fun hb27 => ?_) (fun hb27 => ?_)
    · refine V_aload_n d_Mo_rules_32 rfl ?_
      refine V_iload_n d_Mo_rules_33 rfl ?_
      refine V_iconst (v := nI 2) d_Mo_rules_34 (by decide +kernel) ?_
      refine V_callV (As := [.int (nI r), .int (nI 2)]) (rest := []) (lo' := [some (.ref m), some (.int (nI r)), some (.int (nI 2))]) (bc1 := 0) (bs1 := 0) (bc' := 0) (bs' := 0) d_Mo_rules_35 k_Mo_rules_69 hH rfl rfl rfl rfl (by rfl) (by rfl) ?_
      refine c_Mo_get hH hF (by omega) ?_
      rw [hR.2.1 2 (by omega)]
      show pV Γ m_Mo_rules 38 [some (.ref m), some (.int (nI r)), some (.int (nI c)), some (.int (nI (pAlone ld D))), some (.int (nI (cu c)))] [.int ((dP D 2))] _ G 0 0 Q
      refine V_aload_n d_Mo_rules_38 rfl ?_
      refine V_iload d_Mo_rules_39 rfl ?_
      refine V_iconst (v := nI 2) d_Mo_rules_41 (by decide +kernel) ?_
      refine V_callV (As := [.int (nI (cu c)), .int (nI 2)]) (rest := [.int ((dP D 2))]) (lo' := [some (.ref m), some (.int (nI (cu c))), some (.int (nI 2))]) (bc1 := 0) (bs1 := 0) (bc' := 0) (bs' := 0) d_Mo_rules_42 k_Mo_rules_69 hH rfl rfl rfl rfl (by rfl) (by rfl) ?_
      refine c_Mo_get hH hF (by omega) ?_
      rw [hS.2.1 2 (by omega)]
      show pV Γ m_Mo_rules 45 [some (.ref m), some (.int (nI r)), some (.int (nI c)), some (.int (nI (pAlone ld D))), some (.int (nI (cu c)))] [.int ((dP L.2.1 2)), .int ((dP D 2))] _ G 0 0 Q
      refine V_icmp_ne (tgt := 58) d_Mo_rules_45 (by decide) (fun hb45 => ?_) (fun hb45 => ?_)
      · refine V_bipush (v := nI 6) d_Mo_rules_58 (by decide +kernel) ?_
        exact V_ireturn d_Mo_rules_60 rfl (pQ_n hQ (by unfold pRule; rw [if_pos hb7]; unfold pBes; rw [pI_f (fun e => e hb27), pI_t (by first | exact Or.inl hb45 | exact Or.inr hb55)]))
      · refine V_aload_n d_Mo_rules_48 rfl ?_
        refine V_iload_n d_Mo_rules_49 rfl ?_
        refine V_iload d_Mo_rules_50 rfl ?_
        refine V_callV (As := [.int (nI r), .int (nI (cu c))]) (rest := []) (lo' := [some (.ref m), some (.int (nI r)), some (.int (nI (cu c))), none, none, none, none]) (bc1 := 0) (bs1 := 0) (bc' := 0) (bs' := 0) d_Mo_rules_52 k_Mo_rules_115 hH rfl rfl rfl rfl (by rfl) (by rfl) ?_
        refine c_Mo_otherInterfaces hH hF hr k2 hR hS ?_
        show pV Γ m_Mo_rules 55 [some (.ref m), some (.int (nI r)), some (.int (nI c)), some (.int (nI (pAlone ld D))), some (.int (nI (cu c)))] [.int (pB (¬ pIfs D L.2.1))] _ G 0 0 Q
        refine V_if_eqB (tgt := 61) d_Mo_rules_55 (by decide) (fun hb55 => ?_) (fun hb55 => ?_)
        · refine V_aload_n d_Mo_rules_61 rfl ?_
          refine V_iload_n d_Mo_rules_62 rfl ?_
          refine V_iload d_Mo_rules_63 rfl ?_
          refine V_callV (As := [.int (nI r), .int (nI (cu c))]) (rest := []) (lo' := [some (.ref m), some (.int (nI r)), some (.int (nI (cu c))), none, none]) (bc1 := 0) (bs1 := 0) (bc' := 0) (bs' := 0) d_Mo_rules_65 k_Mo_rules_119 hH rfl rfl rfl rfl (by rfl) (by rfl) ?_
          refine c_Mo_otherFields hH hF hr k2 hR hS ?_
          show pV Γ m_Mo_rules 68 [some (.ref m), some (.int (nI r)), some (.int (nI c)), some (.int (nI (pAlone ld D))), some (.int (nI (cu c)))] [.int (pB (¬ pFds D L.2.1))] _ G 0 0 Q
          refine V_if_eqB (tgt := 74) d_Mo_rules_68 (by decide) (fun hb68 => ?_) (fun hb68 => ?_)
          · refine V_aload_n d_Mo_rules_74 rfl ?_
            refine V_iload_n d_Mo_rules_75 rfl ?_
            refine V_iload d_Mo_rules_76 rfl ?_
            refine V_callV (As := [.int (nI r), .int (nI (cu c))]) (rest := []) (lo' := [some (.ref m), some (.int (nI r)), some (.int (nI (cu c))), none, none]) (bc1 := 0) (bs1 := 0) (bc' := 0) (bs' := 0) d_Mo_rules_78 k_Mo_rules_122 hH rfl rfl rfl rfl (by rfl) (by rfl) ?_
            refine c_Mo_moreMethods hH hF hr k2 hR hS ?_
            show pV Γ m_Mo_rules 81 [some (.ref m), some (.int (nI r)), some (.int (nI c)), some (.int (nI (pAlone ld D))), some (.int (nI (cu c)))] [.int (pB (¬ pNms L.2.1 D))] _ G 0 0 Q
            refine V_if_eqB (tgt := 87) d_Mo_rules_81 (by decide) (fun hb81 => ?_) (fun hb81 => ?_)
            · refine V_aload_n d_Mo_rules_87 rfl ?_
              refine V_iload d_Mo_rules_88 rfl ?_
              refine V_iload_n d_Mo_rules_90 rfl ?_
              refine V_callV (As := [.int (nI (cu c)), .int (nI r)]) (rest := []) (lo' := [some (.ref m), some (.int (nI (cu c))), some (.int (nI r)), none, none]) (bc1 := 0) (bs1 := 0) (bc' := 0) (bs' := 0) d_Mo_rules_91 k_Mo_rules_122 hH rfl rfl rfl rfl (by rfl) (by rfl) ?_
              refine c_Mo_moreMethods hH hF k2 hr hS hR ?_
              show pV Γ m_Mo_rules 94 [some (.ref m), some (.int (nI r)), some (.int (nI c)), some (.int (nI (pAlone ld D))), some (.int (nI (cu c)))] [.int (pB (¬ pNms D L.2.1))] _ G 0 0 Q
              refine V_if_eqB (tgt := 100) d_Mo_rules_94 (by decide) (fun hb94 => ?_) (fun hb94 => ?_)
              · refine V_aload_n d_Mo_rules_100 rfl ?_
                refine V_iload_n d_Mo_rules_101 rfl ?_
                refine V_iconst (v := nI 3) d_Mo_rules_102 (by decide +kernel) ?_
                refine V_callV (As := [.int (nI r), .int (nI 3)]) (rest := []) (lo' := [some (.ref m), some (.int (nI r)), some (.int (nI 3))]) (bc1 := 0) (bs1 := 0) (bc' := 0) (bs' := 0) d_Mo_rules_103 k_Mo_rules_69 hH rfl rfl rfl rfl (by rfl) (by rfl) ?_
                refine c_Mo_get hH hF (by omega) ?_
                rw [hR.2.1 3 (by omega)]
                show pV Γ m_Mo_rules 106 [some (.ref m), some (.int (nI r)), some (.int (nI c)), some (.int (nI (pAlone ld D))), some (.int (nI (cu c)))] [.int ((dP D 3))] _ G 0 0 Q
                refine V_aload_n d_Mo_rules_106 rfl ?_
                refine V_iload d_Mo_rules_107 rfl ?_
                refine V_iconst (v := nI 3) d_Mo_rules_109 (by decide +kernel) ?_
                refine V_callV (As := [.int (nI (cu c)), .int (nI 3)]) (rest := [.int ((dP D 3))]) (lo' := [some (.ref m), some (.int (nI (cu c))), some (.int (nI 3))]) (bc1 := 0) (bs1 := 0) (bc' := 0) (bs' := 0) d_Mo_rules_110 k_Mo_rules_69 hH rfl rfl rfl rfl (by rfl) (by rfl) ?_
                refine c_Mo_get hH hF (by omega) ?_
                rw [hS.2.1 3 (by omega)]
                show pV Γ m_Mo_rules 113 [some (.ref m), some (.int (nI r)), some (.int (nI c)), some (.int (nI (pAlone ld D))), some (.int (nI (cu c)))] [.int ((dP L.2.1 3)), .int ((dP D 3))] _ G 0 0 Q
                refine V_icmp_eq (tgt := 119) d_Mo_rules_113 (by decide) (fun hb113 => ?_) (fun hb113 => ?_)
                · refine V_aload_n d_Mo_rules_119 rfl ?_
                  refine V_iload_n d_Mo_rules_120 rfl ?_
                  refine V_iload d_Mo_rules_121 rfl ?_
                  refine V_callV (As := [.int (nI r), .int (nI (cu c))]) (rest := []) (lo' := [some (.ref m), some (.int (nI r)), some (.int (nI (cu c))), none, none, none, none]) (bc1 := 0) (bs1 := 0) (bc' := 0) (bs' := 0) d_Mo_rules_123 k_Mo_rules_125 hH rfl rfl rfl rfl (by rfl) (by rfl) ?_
                  refine c_Mo_otherMethodFlags hH hF hr k2 hR hS hdD hdE ?_
                  show pV Γ m_Mo_rules 126 [some (.ref m), some (.int (nI r)), some (.int (nI c)), some (.int (nI (pAlone ld D))), some (.int (nI (cu c)))] [.int (pB (¬ pFlg D L.2.1))] _ G 0 0 Q
                  refine V_if_eqB (tgt := 132) d_Mo_rules_126 (by decide) (fun hb126 => ?_) (fun hb126 => ?_)
                  · refine V_aload_n d_Mo_rules_132 rfl ?_
                    refine V_iload_n d_Mo_rules_133 rfl ?_
                    refine V_iconst (v := nI 4) d_Mo_rules_134 (by decide +kernel) ?_
                    refine V_callV (As := [.int (nI r), .int (nI 4)]) (rest := []) (lo' := [some (.ref m), some (.int (nI r)), some (.int (nI 4))]) (bc1 := 0) (bs1 := 0) (bc' := 0) (bs' := 0) d_Mo_rules_135 k_Mo_rules_69 hH rfl rfl rfl rfl (by rfl) (by rfl) ?_
                    refine c_Mo_get hH hF (by omega) ?_
                    rw [hR.2.1 4 (by omega)]
                    show pV Γ m_Mo_rules 138 [some (.ref m), some (.int (nI r)), some (.int (nI c)), some (.int (nI (pAlone ld D))), some (.int (nI (cu c)))] [.int ((dP D 4))] _ G 0 0 Q
                    refine V_aload_n d_Mo_rules_138 rfl ?_
                    refine V_iload d_Mo_rules_139 rfl ?_
                    refine V_iconst (v := nI 4) d_Mo_rules_141 (by decide +kernel) ?_
                    refine V_callV (As := [.int (nI (cu c)), .int (nI 4)]) (rest := [.int ((dP D 4))]) (lo' := [some (.ref m), some (.int (nI (cu c))), some (.int (nI 4))]) (bc1 := 0) (bs1 := 0) (bc' := 0) (bs' := 0) d_Mo_rules_142 k_Mo_rules_69 hH rfl rfl rfl rfl (by rfl) (by rfl) ?_
                    refine c_Mo_get hH hF (by omega) ?_
                    rw [hS.2.1 4 (by omega)]
                    show pV Γ m_Mo_rules 145 [some (.ref m), some (.int (nI r)), some (.int (nI c)), some (.int (nI (pAlone ld D))), some (.int (nI (cu c)))] [.int ((dP L.2.1 4)), .int ((dP D 4))] _ G 0 0 Q
                    refine V_icmp_eq (tgt := 153) d_Mo_rules_145 (by decide) (fun hb145 => ?_) (fun hb145 => ?_)
                    · refine V_iconst (v := nI 0) d_Mo_rules_153 (by decide +kernel) ?_
                      exact V_ireturn d_Mo_rules_154 rfl (pQ_n hQ (by unfold pRule; rw [if_pos hb7]; unfold pBes; rw [pI_f (fun e => e hb27), pI_f (fun e => e.elim (fun e => e hb45) hb55), pI_f hb68, pI_f hb81, pI_f hb94, pI_f (fun e => e hb113), pI_f hb126, pI_f (fun e => e hb145)]))
                    · refine V_bipush (v := nI 12) d_Mo_rules_148 (by decide +kernel) ?_
                      refine V_goto (tgt := 154) d_Mo_rules_150 (by decide) ?_
                      exact V_ireturn d_Mo_rules_154 rfl (pQ_n hQ (by unfold pRule; rw [if_pos hb7]; unfold pBes; rw [pI_f (fun e => e hb27), pI_f (fun e => e.elim (fun e => e hb45) hb55), pI_f hb68, pI_f hb81, pI_f hb94, pI_f (fun e => e hb113), pI_f hb126, pI_t hb145]))
                  · refine V_bipush (v := nI 11) d_Mo_rules_129 (by decide +kernel) ?_
                    exact V_ireturn d_Mo_rules_131 rfl (pQ_n hQ (by unfold pRule; rw [if_pos hb7]; unfold pBes; rw [pI_f (fun e => e hb27), pI_f (fun e => e.elim (fun e => e hb45) hb55), pI_f hb68, pI_f hb81, pI_f hb94, pI_f (fun e => e hb113), pI_t hb126]))
                · refine V_bipush (v := nI 10) d_Mo_rules_116 (by decide +kernel) ?_
                  exact V_ireturn d_Mo_rules_118 rfl (pQ_n hQ (by unfold pRule; rw [if_pos hb7]; unfold pBes; rw [pI_f (fun e => e hb27), pI_f (fun e => e.elim (fun e => e hb45) hb55), pI_f hb68, pI_f hb81, pI_f hb94, pI_t hb113]))
              · refine V_bipush (v := nI 9) d_Mo_rules_97 (by decide +kernel) ?_
                exact V_ireturn d_Mo_rules_99 rfl (pQ_n hQ (by unfold pRule; rw [if_pos hb7]; unfold pBes; rw [pI_f (fun e => e hb27), pI_f (fun e => e.elim (fun e => e hb45) hb55), pI_f hb68, pI_f hb81, pI_t hb94]))
            · refine V_bipush (v := nI 8) d_Mo_rules_84 (by decide +kernel) ?_
              exact V_ireturn d_Mo_rules_86 rfl (pQ_n hQ (by unfold pRule; rw [if_pos hb7]; unfold pBes; rw [pI_f (fun e => e hb27), pI_f (fun e => e.elim (fun e => e hb45) hb55), pI_f hb68, pI_t hb81]))
          · refine V_bipush (v := nI 7) d_Mo_rules_71 (by decide +kernel) ?_
            exact V_ireturn d_Mo_rules_73 rfl (pQ_n hQ (by unfold pRule; rw [if_pos hb7]; unfold pBes; rw [pI_f (fun e => e hb27), pI_f (fun e => e.elim (fun e => e hb45) hb55), pI_t hb68]))
        · refine V_bipush (v := nI 6) d_Mo_rules_58 (by decide +kernel) ?_
          exact V_ireturn d_Mo_rules_60 rfl (pQ_n hQ (by unfold pRule; rw [if_pos hb7]; unfold pBes; rw [pI_f (fun e => e hb27), pI_t (by first | exact Or.inl hb45 | exact Or.inr hb55)]))
    · refine V_iconst (v := nI 5) d_Mo_rules_30 (by decide +kernel) ?_
      exact V_ireturn d_Mo_rules_31 rfl (pQ_n hQ (by unfold pRule; rw [if_pos hb7]; unfold pBes; rw [pI_t hb27]))
  · refine V_iload_n d_Mo_rules_10 rfl ?_
    exact V_ireturn d_Mo_rules_11 rfl (pQ_n hQ (by unfold pRule; rw [if_neg (by omega)]))
