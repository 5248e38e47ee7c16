/-! The reference: plainRules. -/
def acc (P : Nat → Nat → Prop) (len : Nat → Nat) (m i : Nat) : Prop := (∃ m', m' < m ∧ ∃ i, i < len m' ∧ P m' i) ∨ ∃ i', i' < i ∧ P m i'
theorem acc_s {P : Nat → Nat → Prop} {len : Nat → Nat} {m i : Nat} : acc P len m (i + 1) ↔ (acc P len m i ∨ P m i) := by
  constructor
  · rintro (h | ⟨k, hk, e⟩)
    · exact Or.inl (Or.inl h)
    · by_cases q : k = i
      · subst q; exact Or.inr e
      · exact Or.inl (Or.inr ⟨k, by omega, e⟩)
  · rintro ((h | ⟨k, hk, e⟩) | e)
    · exact Or.inl h
    · exact Or.inr ⟨k, by omega, e⟩
    · exact Or.inr ⟨i, by omega, e⟩
theorem acc_n {P : Nat → Nat → Prop} {len : Nat → Nat} {m : Nat} : acc P len m (len m) ↔ acc P len (m + 1) 0 := by
  constructor
  · rintro (⟨m', h1, h2⟩ | ⟨i, hi, e⟩)
    · exact Or.inl ⟨m', by omega, h2⟩
    · exact Or.inl ⟨m, by omega, i, hi, e⟩
  · rintro (⟨m', h1, i, hi, e⟩ | ⟨i, hi, _⟩)
    · by_cases q : m' = m
      · subst q; exact Or.inr ⟨i, hi, e⟩
      · exact Or.inl ⟨m', by omega, i, hi, e⟩
    · exact absurd hi (by omega)
theorem acc_z {P : Nat → Nat → Prop} {len : Nat → Nat} : ¬ acc P len 0 0 := by
  rintro (⟨m', h1, _⟩ | ⟨i, hi, _⟩)
  · exact absurd h1 (by omega)
  · exact absurd hi (by omega)
theorem acc_e {P : Nat → Nat → Prop} {len : Nat → Nat} {m : Nat} : acc P len m 0 ↔ ∃ m', m' < m ∧ ∃ i, i < len m' ∧ P m' i := by
  constructor
  · rintro (h | ⟨i, hi, _⟩)
    · exact h
    · exact absurd hi (by omega)
  · exact Or.inl
theorem pLd_u {ld : LdS} {x : Int32} {c c' : Nat} {L L' : Nat × Dfn × Dfn} (hc : c < 6) (hx : x = nI c) (hl : ld c = some L) (hc' : c' < 6) (hx' : x = nI c') (hl' : ld c' = some L') : L = L' := by
  have e : c = c' := (nI_eq (by omega) (by omega)).mp (hx.symm.trans hx')
  subst e
  exact Option.some.inj (hl.symm.trans hl')
theorem pDup_c {n : Nat} {g g' : Nat → Int32} (h : ∀ i, i < n → g i = g' i) : pDup n g ↔ pDup n g' :=
  ⟨fun ⟨i, j, h1, h2, e⟩ => ⟨i, j, h1, h2, by rw [← h i h2, ← h j (by omega)]; exact e⟩, fun ⟨i, j, h1, h2, e⟩ => ⟨i, j, h1, h2, by rw [h i h2, h j (by omega)]; exact e⟩⟩
def lackP (ld : LdS) (D : Dfn) (m i : Nat) : Prop := dC D m (i * 3) = nI 1 ∧ ¬ pCal ld D (dC D m (i * 3 + 1)) (dC D m (i * 3 + 2))
set_option maxRecDepth 10000 in
set_option maxHeartbeats 1000000 in
theorem c_Mo_callsNothing {Γ : pmE} {G : pmG} {n : Nat} {Q : pmPost} {m : Nat} {ch ba : Int32} {f : Nat → Int32} {cu : Nat → Nat} {r : Nat} {D : Dfn} {ld : LdS} (hH : G m = some (.inr (kMo, moFs m ch ba))) (hF : G (m + 1) = some (.inl (0, 4387, .inl f))) (hCu : G (m + 2) = some (.inl (0, 6, .inl (fun j => nI (cu j))))) (hr : r < 41) (hR : isRow f r D) (hL : moL f cu ld) (hQ : Q (some (.int (pB (pLack ld D)))) n G) : pV Γ m_Mo_callsNothing 0 [some (.ref m), some (.int (nI r)), none, none, none, none, none, none, none] [] n G 0 0 Q := by
  have hR0 := hR
  obtain ⟨⟨o1, o2, o3, o4⟩, hr1, hr2, hr3, hr4, hr5, hr7, hr8⟩ := hR
  have loop : ∀ (d k : Nat), k ≤ dNm D → dNm D - k < d → ∀ (x2 : Int32) (w4 w5 w6 w7 w8 : Option Value), x2 = pB (acc (lackP ld D) (dL D) k 0) → pV Γ m_Mo_callsNothing 4 [some (.ref m), some (.int (nI r)), some (.int x2), some (.int (nI k)), w4, w5, w6, w7, w8] [] n G 0 0 Q := by
    intro d
    induction d with
    | zero => intro k _ hd; exact absurd hd (by omega)
    | succ d ih =>
      intro k hi hd x2 w4 w5 w6 w7 w8 h2
      subst h2
      refine V_iload_n d_Mo_callsNothing_4 rfl ?_
      refine V_aload_n d_Mo_callsNothing_5 rfl ?_
      refine V_iload_n d_Mo_callsNothing_6 rfl ?_
      refine V_bipush (v := nI 22) d_Mo_callsNothing_7 (by decide +kernel) ?_
      refine V_callV (As := [.int (nI r), .int (nI 22)]) (rest := [.int (nI k)]) (lo' := [some (.ref m), some (.int (nI r)), some (.int (nI 22))]) (bc1 := 0) (bs1 := 0) (bc' := 0) (bs' := 0) d_Mo_callsNothing_9 k_Mo_callsNothing_69 hH rfl rfl rfl rfl (by rfl) (by rfl) ?_
      refine c_Mo_get hH hF (by omega) ?_
      rw [hr7]
      show pV Γ m_Mo_callsNothing 12 [some (.ref m), some (.int (nI r)), some (.int (pB (acc (lackP ld D) (dL D) k 0))), some (.int (nI k)), w4, w5, w6, w7, w8] [.int (nI (dNm D)), .int (nI k)] _ G 0 0 Q
      refine V_icmp_geN (tgt := 178) d_Mo_callsNothing_12 (by decide) (by omega) (by omega) (fun hb12 => ?_) (fun hb12 => ?_)
      · refine V_iload_n d_Mo_callsNothing_178 rfl ?_
        exact V_zreturn d_Mo_callsNothing_179 rfl (by first | exact pB_or _ | exact Or.inl rfl | exact Or.inr rfl) (by rw [show k = dNm D by omega, pB_c (show acc (lackP ld D) (dL D) (dNm D) 0 ↔ pLack ld D from acc_e)]; exact hQ)
      · refine V_iload_n d_Mo_callsNothing_15 rfl ?_
        refine V_callS (As := [.int (nI k)]) (rest := []) (lo' := [some (.int (nI k))]) (bc1 := 0) (bs1 := 0) (bc' := 0) (bs' := 0) d_Mo_callsNothing_16 k_Mo_callsNothing_85 rfl rfl rfl rfl (by rfl) (by rfl) ?_
        refine c_Mo_methodAt ?_
        show pV Γ m_Mo_callsNothing 19 [some (.ref m), some (.int (nI r)), some (.int (pB (acc (lackP ld D) (dL D) k 0))), some (.int (nI k)), w4, w5, w6, w7, w8] [.int (nI (23 + 21 * k))] _ G 0 0 Q
        refine V_iconst (v := nI 2) d_Mo_callsNothing_19 (by decide +kernel) ?_
        refine V_iaddN d_Mo_callsNothing_20 ?_
        refine V_istore d_Mo_callsNothing_21 (Nat.le_of_ble_eq_true rfl) ?_
        show pV Γ _ _ [some (.ref m), some (.int (nI r)), some (.int (pB (acc (lackP ld D) (dL D) k 0))), some (.int (nI k)), some (.int (nI (23 + 21 * k + 2))), w5, w6, w7, w8] _ _ _ _ _ _
        refine V_iconst (v := nI 0) d_Mo_callsNothing_23 (by decide +kernel) ?_
        refine V_istore d_Mo_callsNothing_24 (Nat.le_of_ble_eq_true rfl) ?_
        show pV Γ _ _ [some (.ref m), some (.int (nI r)), some (.int (pB (acc (lackP ld D) (dL D) k 0))), some (.int (nI k)), some (.int (nI (23 + 21 * k + 2))), some (.int (nI 0)), w6, w7, w8] _ _ _ _ _ _
        have hl6 := o4 k (by omega)
        have inner : ∀ (d2 i : Nat), i ≤ dL D k → dL D k - i < d2 → ∀ (x2 : Int32) (w6 w7 w8 : Option Value), x2 = pB (acc (lackP ld D) (dL D) k i) → pV Γ m_Mo_callsNothing 26 [some (.ref m), some (.int (nI r)), some (.int x2), some (.int (nI k)), some (.int (nI (23 + 21 * k + 2))), some (.int (nI i)), w6, w7, w8] [] n G 0 0 Q := by
          intro d2
          induction d2 with
          | zero => intro i _ hd2; exact absurd hd2 (by omega)
          | succ d2 ih2 =>
            intro i hj hd2 x2 w6 w7 w8 h2
            subst h2
            refine V_iload d_Mo_callsNothing_26 rfl ?_
            refine V_aload_n d_Mo_callsNothing_28 rfl ?_
            refine V_iload_n d_Mo_callsNothing_29 rfl ?_
            refine V_iload d_Mo_callsNothing_30 rfl ?_
            refine V_callV (As := [.int (nI r), .int (nI (23 + 21 * k + 2))]) (rest := [.int (nI i)]) (lo' := [some (.ref m), some (.int (nI r)), some (.int (nI (23 + 21 * k + 2)))]) (bc1 := 0) (bs1 := 0) (bc' := 0) (bs' := 0) d_Mo_callsNothing_32 k_Mo_callsNothing_69 hH rfl rfl rfl rfl (by rfl) (by rfl) ?_
            refine c_Mo_get hH hF (by omega) ?_
            rw [(hr8 k (by omega)).2.2.1]
            show pV Γ m_Mo_callsNothing 35 [some (.ref m), some (.int (nI r)), some (.int (pB (acc (lackP ld D) (dL D) k i))), some (.int (nI k)), some (.int (nI (23 + 21 * k + 2))), some (.int (nI i)), w6, w7, w8] [.int (nI (dL D k)), .int (nI i)] _ G 0 0 Q
            refine V_icmp_geN (tgt := 172) d_Mo_callsNothing_35 (by decide) (by omega) (by omega) (fun hb35 => ?_) (fun hb35 => ?_)
            · refine V_iincN d_Mo_callsNothing_172 rfl ?_
              show pV Γ _ _ [some (.ref m), some (.int (nI r)), some (.int (pB (acc (lackP ld D) (dL D) k i))), some (.int (nI (k + 1))), some (.int (nI (23 + 21 * k + 2))), some (.int (nI i)), w6, w7, w8] _ _ _ _ _ _
              refine V_goto (tgt := 4) d_Mo_callsNothing_175 (by decide) ?_
              exact ih (k + 1) (by omega) (by omega) _ _ _ _ _ _ (pB_c (by rw [show i = dL D k by omega]; exact acc_n))
            · refine V_aload_n d_Mo_callsNothing_38 rfl ?_
              refine V_iload_n d_Mo_callsNothing_39 rfl ?_
              refine V_iload d_Mo_callsNothing_40 rfl ?_
              refine V_iconst (v := nI 2) d_Mo_callsNothing_42 (by decide +kernel) ?_
              refine V_iaddN d_Mo_callsNothing_43 ?_
              refine V_iconst (v := nI 3) d_Mo_callsNothing_44 (by decide +kernel) ?_
              refine V_iload d_Mo_callsNothing_45 rfl ?_
              refine V_imulN d_Mo_callsNothing_47 ?_
              refine V_iaddN d_Mo_callsNothing_48 ?_
              refine V_callV (As := [.int (nI r), .int (nI (23 + 21 * k + 2 + 2 + (3 * i)))]) (rest := []) (lo' := [some (.ref m), some (.int (nI r)), some (.int (nI (23 + 21 * k + 2 + 2 + (3 * i))))]) (bc1 := 0) (bs1 := 0) (bc' := 0) (bs' := 0) d_Mo_callsNothing_49 k_Mo_callsNothing_69 hH rfl rfl rfl rfl (by rfl) (by rfl) ?_
              refine c_Mo_get hH hF (by omega) ?_
              rw [show 107 * r + (23 + 21 * k + 2 + 2 + 3 * i) = 107 * r + (23 + 21 * k + 3 + (i * 3 + 1)) by omega, (hr8 k (by omega)).2.2.2 (i * 3 + 1) (by omega)]
              show pV Γ m_Mo_callsNothing 52 [some (.ref m), some (.int (nI r)), some (.int (pB (acc (lackP ld D) (dL D) k i))), some (.int (nI k)), some (.int (nI (23 + 21 * k + 2))), some (.int (nI i)), w6, w7, w8] [.int ((dC D k (i * 3 + 1)))] _ G 0 0 Q
              refine V_istore d_Mo_callsNothing_52 (Nat.le_of_ble_eq_true rfl) ?_
              show pV Γ _ _ [some (.ref m), some (.int (nI r)), some (.int (pB (acc (lackP ld D) (dL D) k i))), some (.int (nI k)), some (.int (nI (23 + 21 * k + 2))), some (.int (nI i)), some (.int ((dC D k (i * 3 + 1)))), w7, w8] _ _ _ _ _ _
              refine V_aload_n d_Mo_callsNothing_54 rfl ?_
              refine V_iload_n d_Mo_callsNothing_55 rfl ?_
              refine V_iload d_Mo_callsNothing_56 rfl ?_
              refine V_iconst (v := nI 3) d_Mo_callsNothing_58 (by decide +kernel) ?_
              refine V_iaddN d_Mo_callsNothing_59 ?_
              refine V_iconst (v := nI 3) d_Mo_callsNothing_60 (by decide +kernel) ?_
              refine V_iload d_Mo_callsNothing_61 rfl ?_
              refine V_imulN d_Mo_callsNothing_63 ?_
              refine V_iaddN d_Mo_callsNothing_64 ?_
              refine V_callV (As := [.int (nI r), .int (nI (23 + 21 * k + 2 + 3 + (3 * i)))]) (rest := []) (lo' := [some (.ref m), some (.int (nI r)), some (.int (nI (23 + 21 * k + 2 + 3 + (3 * i))))]) (bc1 := 0) (bs1 := 0) (bc' := 0) (bs' := 0) d_Mo_callsNothing_65 k_Mo_callsNothing_69 hH rfl rfl rfl rfl (by rfl) (by rfl) ?_
              refine c_Mo_get hH hF (by omega) ?_
              rw [show 107 * r + (23 + 21 * k + 2 + 3 + 3 * i) = 107 * r + (23 + 21 * k + 3 + (i * 3 + 2)) by omega, (hr8 k (by omega)).2.2.2 (i * 3 + 2) (by omega)]
              show pV Γ m_Mo_callsNothing 68 [some (.ref m), some (.int (nI r)), some (.int (pB (acc (lackP ld D) (dL D) k i))), some (.int (nI k)), some (.int (nI (23 + 21 * k + 2))), some (.int (nI i)), some (.int ((dC D k (i * 3 + 1)))), w7, w8] [.int ((dC D k (i * 3 + 2)))] _ G 0 0 Q
              refine V_istore d_Mo_callsNothing_68 (Nat.le_of_ble_eq_true rfl) ?_
              show pV Γ _ _ [some (.ref m), some (.int (nI r)), some (.int (pB (acc (lackP ld D) (dL D) k i))), some (.int (nI k)), some (.int (nI (23 + 21 * k + 2))), some (.int (nI i)), some (.int ((dC D k (i * 3 + 1)))), some (.int ((dC D k (i * 3 + 2)))), w8] _ _ _ _ _ _
              refine V_iload d_Mo_callsNothing_70 rfl ?_
              refine V_aload_n d_Mo_callsNothing_72 rfl ?_
              refine V_iload_n d_Mo_callsNothing_73 rfl ?_
              refine V_iconst (v := nI 1) d_Mo_callsNothing_74 (by decide +kernel) ?_
              refine V_callV (As := [.int (nI r), .int (nI 1)]) (rest := [.int ((dC D k (i * 3 + 1)))]) (lo' := [some (.ref m), some (.int (nI r)), some (.int (nI 1))]) (bc1 := 0) (bs1 := 0) (bc' := 0) (bs' := 0) d_Mo_callsNothing_75 k_Mo_callsNothing_69 hH rfl rfl rfl rfl (by rfl) (by rfl) ?_
              refine c_Mo_get hH hF (by omega) ?_
              rw [hr1 1 (by omega)]
              show pV Γ m_Mo_callsNothing 78 [some (.ref m), some (.int (nI r)), some (.int (pB (acc (lackP ld D) (dL D) k i))), some (.int (nI k)), some (.int (nI (23 + 21 * k + 2))), some (.int (nI i)), some (.int ((dC D k (i * 3 + 1)))), some (.int ((dC D k (i * 3 + 2)))), w8] [.int ((dP D 1)), .int ((dC D k (i * 3 + 1)))] _ G 0 0 Q
              refine V_icmp_ne (tgt := 100) d_Mo_callsNothing_78 (by decide) (fun hb78 => ?_) (fun hb78 => ?_)
              · refine V_aload_n d_Mo_callsNothing_100 rfl ?_
                refine V_iload d_Mo_callsNothing_101 rfl ?_
                refine V_callV (As := [.int ((dC D k (i * 3 + 1)))]) (rest := []) (lo' := [some (.ref m), some (.int ((dC D k (i * 3 + 1))))]) (bc1 := 0) (bs1 := 0) (bc' := 0) (bs' := 0) d_Mo_callsNothing_103 k_Mo_callsNothing_77 hH rfl rfl rfl rfl (by rfl) (by rfl) ?_
                refine c_Mo_loaded hH hCu hL.lt ?_
                show pV Γ m_Mo_callsNothing 106 [some (.ref m), some (.int (nI r)), some (.int (pB (acc (lackP ld D) (dL D) k i))), some (.int (nI k)), some (.int (nI (23 + 21 * k + 2))), some (.int (nI i)), some (.int ((dC D k (i * 3 + 1)))), some (.int ((dC D k (i * 3 + 2)))), w8] [.int (pB (∃ c, c < 6 ∧ dC D k (i * 3 + 1) = nI c ∧ 0 < cu c))] _ G 0 0 Q
                refine V_if_eqB (tgt := 130) d_Mo_callsNothing_106 (by decide) (fun hb106 => ?_) (fun hb106 => ?_)
                · have hcal : ¬ pCal ld D (dC D k (i * 3 + 1)) (dC D k (i * 3 + 2)) := fun e => e.elim (fun e => hb78 e.1) (fun ⟨_, c', L', hc', hx', hl', _⟩ => hb106 ⟨c', hc', hx', (hL.pos hc').mpr ⟨L', hl'⟩⟩)
                  refine V_iconst (v := nI 0) d_Mo_callsNothing_130 (by decide +kernel) ?_
                  refine V_istore d_Mo_callsNothing_131 (Nat.le_of_ble_eq_true rfl) ?_
                  show pV Γ _ _ [some (.ref m), some (.int (nI r)), some (.int (pB (acc (lackP ld D) (dL D) k i))), some (.int (nI k)), some (.int (nI (23 + 21 * k + 2))), some (.int (nI i)), some (.int ((dC D k (i * 3 + 1)))), some (.int ((dC D k (i * 3 + 2)))), some (.int (nI 0))] _ _ _ _ _ _
                  refine V_iload_n d_Mo_callsNothing_133 rfl ?_
                  refine V_if_neB (tgt := 160) d_Mo_callsNothing_134 (by decide) (fun hb134 => ?_) (fun hb134 => ?_)
                  · refine V_iconst (v := nI 1) d_Mo_callsNothing_160 (by decide +kernel) ?_
                    refine V_goto (tgt := 165) d_Mo_callsNothing_161 (by decide) ?_
                    refine V_istore_n d_Mo_callsNothing_165 (Nat.le_of_ble_eq_true rfl) ?_
                    show pV Γ _ _ [some (.ref m), some (.int (nI r)), some (.int (nI 1)), some (.int (nI k)), some (.int (nI (23 + 21 * k + 2))), some (.int (nI i)), some (.int ((dC D k (i * 3 + 1)))), some (.int ((dC D k (i * 3 + 2)))), some (.int (nI 0))] _ _ _ _ _ _
                    refine V_iincN d_Mo_callsNothing_166 rfl ?_
                    show pV Γ _ _ [some (.ref m), some (.int (nI r)), some (.int (nI 1)), some (.int (nI k)), some (.int (nI (23 + 21 * k + 2))), some (.int (nI (i + 1))), some (.int ((dC D k (i * 3 + 1)))), some (.int ((dC D k (i * 3 + 2)))), some (.int (nI 0))] _ _ _ _ _ _
                    refine V_goto (tgt := 26) d_Mo_callsNothing_169 (by decide) ?_
                    exact ih2 (i + 1) (by omega) (by omega) _ _ _ _ (pB_t (acc_s.mpr (by first | exact Or.inl hb134 | exact Or.inr ⟨hb152, hcal⟩))).symm
                  · refine V_aload_n d_Mo_callsNothing_137 rfl ?_
                    refine V_iload_n d_Mo_callsNothing_138 rfl ?_
                    refine V_iload d_Mo_callsNothing_139 rfl ?_
                    refine V_iconst (v := nI 1) d_Mo_callsNothing_141 (by decide +kernel) ?_
                    refine V_iaddN d_Mo_callsNothing_142 ?_
                    refine V_iconst (v := nI 3) d_Mo_callsNothing_143 (by decide +kernel) ?_
                    refine V_iload d_Mo_callsNothing_144 rfl ?_
                    refine V_imulN d_Mo_callsNothing_146 ?_
                    refine V_iaddN d_Mo_callsNothing_147 ?_
                    refine V_callV (As := [.int (nI r), .int (nI (23 + 21 * k + 2 + 1 + (3 * i)))]) (rest := []) (lo' := [some (.ref m), some (.int (nI r)), some (.int (nI (23 + 21 * k + 2 + 1 + (3 * i))))]) (bc1 := 0) (bs1 := 0) (bc' := 0) (bs' := 0) d_Mo_callsNothing_148 k_Mo_callsNothing_69 hH rfl rfl rfl rfl (by rfl) (by rfl) ?_
                    refine c_Mo_get hH hF (by omega) ?_
                    rw [show 107 * r + (23 + 21 * k + 2 + 1 + 3 * i) = 107 * r + (23 + 21 * k + 3 + (i * 3)) by omega, (hr8 k (by omega)).2.2.2 (i * 3) (by omega)]
                    show pV Γ m_Mo_callsNothing 151 [some (.ref m), some (.int (nI r)), some (.int (pB (acc (lackP ld D) (dL D) k i))), some (.int (nI k)), some (.int (nI (23 + 21 * k + 2))), some (.int (nI i)), some (.int ((dC D k (i * 3 + 1)))), some (.int ((dC D k (i * 3 + 2)))), some (.int (nI 0))] [.int ((dC D k (i * 3)))] _ G 0 0 Q
                    refine V_iconst (v := nI 1) d_Mo_callsNothing_151 (by decide +kernel) ?_
                    refine V_icmp_ne (tgt := 164) d_Mo_callsNothing_152 (by decide) (fun hb152 => ?_) (fun hb152 => ?_)
                    · refine V_iconst (v := nI 0) d_Mo_callsNothing_164 (by decide +kernel) ?_
                      refine V_istore_n d_Mo_callsNothing_165 (Nat.le_of_ble_eq_true rfl) ?_
                      show pV Γ _ _ [some (.ref m), some (.int (nI r)), some (.int (nI 0)), some (.int (nI k)), some (.int (nI (23 + 21 * k + 2))), some (.int (nI i)), some (.int ((dC D k (i * 3 + 1)))), some (.int ((dC D k (i * 3 + 2)))), some (.int (nI 0))] _ _ _ _ _ _
                      refine V_iincN d_Mo_callsNothing_166 rfl ?_
                      show pV Γ _ _ [some (.ref m), some (.int (nI r)), some (.int (nI 0)), some (.int (nI k)), some (.int (nI (23 + 21 * k + 2))), some (.int (nI (i + 1))), some (.int ((dC D k (i * 3 + 1)))), some (.int ((dC D k (i * 3 + 2)))), some (.int (nI 0))] _ _ _ _ _ _
                      refine V_goto (tgt := 26) d_Mo_callsNothing_169 (by decide) ?_
                      exact ih2 (i + 1) (by omega) (by omega) _ _ _ _ (pB_f (fun e => (acc_s.mp e).elim hb134 (fun e => by first | exact hb152 e.1 | exact e.2 hcal))).symm
                    · refine V_iload d_Mo_callsNothing_155 rfl ?_
                      refine V_if_neN (tgt := 164) d_Mo_callsNothing_157 (by decide) (by omega) (fun h => absurd h (by omega)) (fun _ => ?_)
                      refine V_iconst (v := nI 1) d_Mo_callsNothing_160 (by decide +kernel) ?_
                      refine V_goto (tgt := 165) d_Mo_callsNothing_161 (by decide) ?_
                      refine V_istore_n d_Mo_callsNothing_165 (Nat.le_of_ble_eq_true rfl) ?_
                      show pV Γ _ _ [some (.ref m), some (.int (nI r)), some (.int (nI 1)), some (.int (nI k)), some (.int (nI (23 + 21 * k + 2))), some (.int (nI i)), some (.int ((dC D k (i * 3 + 1)))), some (.int ((dC D k (i * 3 + 2)))), some (.int (nI 0))] _ _ _ _ _ _
                      refine V_iincN d_Mo_callsNothing_166 rfl ?_
                      show pV Γ _ _ [some (.ref m), some (.int (nI r)), some (.int (nI 1)), some (.int (nI k)), some (.int (nI (23 + 21 * k + 2))), some (.int (nI (i + 1))), some (.int ((dC D k (i * 3 + 1)))), some (.int ((dC D k (i * 3 + 2)))), some (.int (nI 0))] _ _ _ _ _ _
                      refine V_goto (tgt := 26) d_Mo_callsNothing_169 (by decide) ?_
                      exact ih2 (i + 1) (by omega) (by omega) _ _ _ _ (pB_t (acc_s.mpr (by first | exact Or.inl hb134 | exact Or.inr ⟨hb152, hcal⟩))).symm
                · refine V_aload_n d_Mo_callsNothing_109 rfl ?_
                  refine V_aload_n d_Mo_callsNothing_110 rfl ?_
                  refine V_getf d_Mo_callsNothing_111 f_Mo_17 hH rfl ?_
                  refine V_iload d_Mo_callsNothing_114 rfl ?_
                  obtain ⟨c, hc, hx, h0⟩ := hb106
                  obtain ⟨L, hl⟩ := (hL.pos hc).mp h0
                  obtain ⟨k1, k2, k3⟩ := (hL c hc).1 L hl
                  refine V_iaload (j := c) d_Mo_callsNothing_116 rfl hCu hx hc (by omega) ?_
                  show pV Γ _ _ _ (.int (nI (cu c)) :: _) _ _ _ _ _
                  refine V_iload d_Mo_callsNothing_117 rfl ?_
                  refine V_callV (As := [.int (nI (cu c)), .int ((dC D k (i * 3 + 2)))]) (rest := []) (lo' := [some (.ref m), some (.int (nI (cu c))), some (.int ((dC D k (i * 3 + 2)))), none]) (bc1 := 0) (bs1 := 0) (bc' := 0) (bs' := 0) d_Mo_callsNothing_119 k_Mo_callsNothing_89 hH rfl rfl rfl rfl (by rfl) (by rfl) ?_
                  refine c_Mo_find hH hF k2 k3 (fun hn => ?_) (fun j hj => ?_)
                  · show pV Γ m_Mo_callsNothing 122 [some (.ref m), some (.int (nI r)), some (.int (pB (acc (lackP ld D) (dL D) k i))), some (.int (nI k)), some (.int (nI (23 + 21 * k + 2))), some (.int (nI i)), some (.int ((dC D k (i * 3 + 1)))), some (.int ((dC D k (i * 3 + 2)))), w8] [.int ((-1))] _ G 0 0 Q
                    refine V_iconst (v := (-1)) d_Mo_callsNothing_122 (by decide +kernel) ?_
                    refine V_icmp_eq (tgt := 130) d_Mo_callsNothing_123 (by decide) (fun _ => ?_) (fun e => absurd rfl e)
                    have hcal : ¬ pCal ld D (dC D k (i * 3 + 1)) (dC D k (i * 3 + 2)) := fun e => e.elim (fun e => hb78 e.1) (fun ⟨_, c', L', hc', hx', hl', j, hj, ej⟩ => by rw [← pLd_u hc hx hl hc' hx' hl'] at hj ej; exact hn j hj ej)
                    refine V_iconst (v := nI 0) d_Mo_callsNothing_130 (by decide +kernel) ?_
                    refine V_istore d_Mo_callsNothing_131 (Nat.le_of_ble_eq_true rfl) ?_
                    show pV Γ _ _ [some (.ref m), some (.int (nI r)), some (.int (pB (acc (lackP ld D) (dL D) k i))), some (.int (nI k)), some (.int (nI (23 + 21 * k + 2))), some (.int (nI i)), some (.int ((dC D k (i * 3 + 1)))), some (.int ((dC D k (i * 3 + 2)))), some (.int (nI 0))] _ _ _ _ _ _
                    refine V_iload_n d_Mo_callsNothing_133 rfl ?_
                    refine V_if_neB (tgt := 160) d_Mo_callsNothing_134 (by decide) (fun hb134 => ?_) (fun hb134 => ?_)
                    · refine V_iconst (v := nI 1) d_Mo_callsNothing_160 (by decide +kernel) ?_
                      refine V_goto (tgt := 165) d_Mo_callsNothing_161 (by decide) ?_
                      refine V_istore_n d_Mo_callsNothing_165 (Nat.le_of_ble_eq_true rfl) ?_
                      show pV Γ _ _ [some (.ref m), some (.int (nI r)), some (.int (nI 1)), some (.int (nI k)), some (.int (nI (23 + 21 * k + 2))), some (.int (nI i)), some (.int ((dC D k (i * 3 + 1)))), some (.int ((dC D k (i * 3 + 2)))), some (.int (nI 0))] _ _ _ _ _ _
                      refine V_iincN d_Mo_callsNothing_166 rfl ?_
                      show pV Γ _ _ [some (.ref m), some (.int (nI r)), some (.int (nI 1)), some (.int (nI k)), some (.int (nI (23 + 21 * k + 2))), some (.int (nI (i + 1))), some (.int ((dC D k (i * 3 + 1)))), some (.int ((dC D k (i * 3 + 2)))), some (.int (nI 0))] _ _ _ _ _ _
                      refine V_goto (tgt := 26) d_Mo_callsNothing_169 (by decide) ?_
                      exact ih2 (i + 1) (by omega) (by omega) _ _ _ _ (pB_t (acc_s.mpr (by first | exact Or.inl hb134 | exact Or.inr ⟨hb152, hcal⟩))).symm
                    · refine V_aload_n d_Mo_callsNothing_137 rfl ?_
                      refine V_iload_n d_Mo_callsNothing_138 rfl ?_
                      refine V_iload d_Mo_callsNothing_139 rfl ?_
                      refine V_iconst (v := nI 1) d_Mo_callsNothing_141 (by decide +kernel) ?_
                      refine V_iaddN d_Mo_callsNothing_142 ?_
                      refine V_iconst (v := nI 3) d_Mo_callsNothing_143 (by decide +kernel) ?_
                      refine V_iload d_Mo_callsNothing_144 rfl ?_
                      refine V_imulN d_Mo_callsNothing_146 ?_
                      refine V_iaddN d_Mo_callsNothing_147 ?_
                      refine V_callV (As := [.int (nI r), .int (nI (23 + 21 * k + 2 + 1 + (3 * i)))]) (rest := []) (lo' := [some (.ref m), some (.int (nI r)), some (.int (nI (23 + 21 * k + 2 + 1 + (3 * i))))]) (bc1 := 0) (bs1 := 0) (bc' := 0) (bs' := 0) d_Mo_callsNothing_148 k_Mo_callsNothing_69 hH rfl rfl rfl rfl (by rfl) (by rfl) ?_
                      refine c_Mo_get hH hF (by omega) ?_
                      rw [show 107 * r + (23 + 21 * k + 2 + 1 + 3 * i) = 107 * r + (23 + 21 * k + 3 + (i * 3)) by omega, (hr8 k (by omega)).2.2.2 (i * 3) (by omega)]
                      show pV Γ m_Mo_callsNothing 151 [some (.ref m), some (.int (nI r)), some (.int (pB (acc (lackP ld D) (dL D) k i))), some (.int (nI k)), some (.int (nI (23 + 21 * k + 2))), some (.int (nI i)), some (.int ((dC D k (i * 3 + 1)))), some (.int ((dC D k (i * 3 + 2)))), some (.int (nI 0))] [.int ((dC D k (i * 3)))] _ G 0 0 Q
                      refine V_iconst (v := nI 1) d_Mo_callsNothing_151 (by decide +kernel) ?_
                      refine V_icmp_ne (tgt := 164) d_Mo_callsNothing_152 (by decide) (fun hb152 => ?_) (fun hb152 => ?_)
                      · refine V_iconst (v := nI 0) d_Mo_callsNothing_164 (by decide +kernel) ?_
                        refine V_istore_n d_Mo_callsNothing_165 (Nat.le_of_ble_eq_true rfl) ?_
                        show pV Γ _ _ [some (.ref m), some (.int (nI r)), some (.int (nI 0)), some (.int (nI k)), some (.int (nI (23 + 21 * k + 2))), some (.int (nI i)), some (.int ((dC D k (i * 3 + 1)))), some (.int ((dC D k (i * 3 + 2)))), some (.int (nI 0))] _ _ _ _ _ _
                        refine V_iincN d_Mo_callsNothing_166 rfl ?_
                        show pV Γ _ _ [some (.ref m), some (.int (nI r)), some (.int (nI 0)), some (.int (nI k)), some (.int (nI (23 + 21 * k + 2))), some (.int (nI (i + 1))), some (.int ((dC D k (i * 3 + 1)))), some (.int ((dC D k (i * 3 + 2)))), some (.int (nI 0))] _ _ _ _ _ _
                        refine V_goto (tgt := 26) d_Mo_callsNothing_169 (by decide) ?_
                        exact ih2 (i + 1) (by omega) (by omega) _ _ _ _ (pB_f (fun e => (acc_s.mp e).elim hb134 (fun e => by first | exact hb152 e.1 | exact e.2 hcal))).symm
                      · refine V_iload d_Mo_callsNothing_155 rfl ?_
                        refine V_if_neN (tgt := 164) d_Mo_callsNothing_157 (by decide) (by omega) (fun h => absurd h (by omega)) (fun _ => ?_)
                        refine V_iconst (v := nI 1) d_Mo_callsNothing_160 (by decide +kernel) ?_
                        refine V_goto (tgt := 165) d_Mo_callsNothing_161 (by decide) ?_
                        refine V_istore_n d_Mo_callsNothing_165 (Nat.le_of_ble_eq_true rfl) ?_
                        show pV Γ _ _ [some (.ref m), some (.int (nI r)), some (.int (nI 1)), some (.int (nI k)), some (.int (nI (23 + 21 * k + 2))), some (.int (nI i)), some (.int ((dC D k (i * 3 + 1)))), some (.int ((dC D k (i * 3 + 2)))), some (.int (nI 0))] _ _ _ _ _ _
                        refine V_iincN d_Mo_callsNothing_166 rfl ?_
                        show pV Γ _ _ [some (.ref m), some (.int (nI r)), some (.int (nI 1)), some (.int (nI k)), some (.int (nI (23 + 21 * k + 2))), some (.int (nI (i + 1))), some (.int ((dC D k (i * 3 + 1)))), some (.int ((dC D k (i * 3 + 2)))), some (.int (nI 0))] _ _ _ _ _ _
                        refine V_goto (tgt := 26) d_Mo_callsNothing_169 (by decide) ?_
                        exact ih2 (i + 1) (by omega) (by omega) _ _ _ _ (pB_t (acc_s.mpr (by first | exact Or.inl hb134 | exact Or.inr ⟨hb152, hcal⟩))).symm
                  · have hj4 : j < 4 := Nat.lt_of_lt_of_le hj.1 k3.1.2.2.1
                    show pV Γ m_Mo_callsNothing 122 [some (.ref m), some (.int (nI r)), some (.int (pB (acc (lackP ld D) (dL D) k i))), some (.int (nI k)), some (.int (nI (23 + 21 * k + 2))), some (.int (nI i)), some (.int ((dC D k (i * 3 + 1)))), some (.int ((dC D k (i * 3 + 2)))), w8] [.int (nI (23 + 21 * j))] _ G 0 0 Q
                    refine V_iconst (v := (-1)) d_Mo_callsNothing_122 (by decide +kernel) ?_
                    refine V_icmp_eq (tgt := 130) d_Mo_callsNothing_123 (by decide) (fun e => absurd e (nI_ne1 (by omega))) (fun _ => ?_)
                    have hcal : pCal ld D (dC D k (i * 3 + 1)) (dC D k (i * 3 + 2)) := Or.inr ⟨hb78, c, L, hc, hx, hl, j, hj.1, hj.2.1⟩
                    refine V_iconst (v := nI 1) d_Mo_callsNothing_126 (by decide +kernel) ?_
                    refine V_goto (tgt := 131) d_Mo_callsNothing_127 (by decide) ?_
                    refine V_istore d_Mo_callsNothing_131 (Nat.le_of_ble_eq_true rfl) ?_
                    show pV Γ _ _ [some (.ref m), some (.int (nI r)), some (.int (pB (acc (lackP ld D) (dL D) k i))), some (.int (nI k)), some (.int (nI (23 + 21 * k + 2))), some (.int (nI i)), some (.int ((dC D k (i * 3 + 1)))), some (.int ((dC D k (i * 3 + 2)))), some (.int (nI 1))] _ _ _ _ _ _
                    refine V_iload_n d_Mo_callsNothing_133 rfl ?_
                    refine V_if_neB (tgt := 160) d_Mo_callsNothing_134 (by decide) (fun hb134 => ?_) (fun hb134 => ?_)
                    · refine V_iconst (v := nI 1) d_Mo_callsNothing_160 (by decide +kernel) ?_
                      refine V_goto (tgt := 165) d_Mo_callsNothing_161 (by decide) ?_
                      refine V_istore_n d_Mo_callsNothing_165 (Nat.le_of_ble_eq_true rfl) ?_
                      show pV Γ _ _ [some (.ref m), some (.int (nI r)), some (.int (nI 1)), some (.int (nI k)), some (.int (nI (23 + 21 * k + 2))), some (.int (nI i)), some (.int ((dC D k (i * 3 + 1)))), some (.int ((dC D k (i * 3 + 2)))), some (.int (nI 1))] _ _ _ _ _ _
                      refine V_iincN d_Mo_callsNothing_166 rfl ?_
                      show pV Γ _ _ [some (.ref m), some (.int (nI r)), some (.int (nI 1)), some (.int (nI k)), some (.int (nI (23 + 21 * k + 2))), some (.int (nI (i + 1))), some (.int ((dC D k (i * 3 + 1)))), some (.int ((dC D k (i * 3 + 2)))), some (.int (nI 1))] _ _ _ _ _ _
                      refine V_goto (tgt := 26) d_Mo_callsNothing_169 (by decide) ?_
                      exact ih2 (i + 1) (by omega) (by omega) _ _ _ _ (pB_t (acc_s.mpr (by first | exact Or.inl hb134 | exact Or.inr ⟨hb152, hcal⟩))).symm
                    · refine V_aload_n d_Mo_callsNothing_137 rfl ?_
                      refine V_iload_n d_Mo_callsNothing_138 rfl ?_
                      refine V_iload d_Mo_callsNothing_139 rfl ?_
                      refine V_iconst (v := nI 1) d_Mo_callsNothing_141 (by decide +kernel) ?_
                      refine V_iaddN d_Mo_callsNothing_142 ?_
                      refine V_iconst (v := nI 3) d_Mo_callsNothing_143 (by decide +kernel) ?_
                      refine V_iload d_Mo_callsNothing_144 rfl ?_
                      refine V_imulN d_Mo_callsNothing_146 ?_
                      refine V_iaddN d_Mo_callsNothing_147 ?_
                      refine V_callV (As := [.int (nI r), .int (nI (23 + 21 * k + 2 + 1 + (3 * i)))]) (rest := []) (lo' := [some (.ref m), some (.int (nI r)), some (.int (nI (23 + 21 * k + 2 + 1 + (3 * i))))]) (bc1 := 0) (bs1 := 0) (bc' := 0) (bs' := 0) d_Mo_callsNothing_148 k_Mo_callsNothing_69 hH rfl rfl rfl rfl (by rfl) (by rfl) ?_
                      refine c_Mo_get hH hF (by omega) ?_
                      rw [show 107 * r + (23 + 21 * k + 2 + 1 + 3 * i) = 107 * r + (23 + 21 * k + 3 + (i * 3)) by omega, (hr8 k (by omega)).2.2.2 (i * 3) (by omega)]
                      show pV Γ m_Mo_callsNothing 151 [some (.ref m), some (.int (nI r)), some (.int (pB (acc (lackP ld D) (dL D) k i))), some (.int (nI k)), some (.int (nI (23 + 21 * k + 2))), some (.int (nI i)), some (.int ((dC D k (i * 3 + 1)))), some (.int ((dC D k (i * 3 + 2)))), some (.int (nI 1))] [.int ((dC D k (i * 3)))] _ G 0 0 Q
                      refine V_iconst (v := nI 1) d_Mo_callsNothing_151 (by decide +kernel) ?_
                      refine V_icmp_ne (tgt := 164) d_Mo_callsNothing_152 (by decide) (fun hb152 => ?_) (fun hb152 => ?_)
                      · refine V_iconst (v := nI 0) d_Mo_callsNothing_164 (by decide +kernel) ?_
                        refine V_istore_n d_Mo_callsNothing_165 (Nat.le_of_ble_eq_true rfl) ?_
                        show pV Γ _ _ [some (.ref m), some (.int (nI r)), some (.int (nI 0)), some (.int (nI k)), some (.int (nI (23 + 21 * k + 2))), some (.int (nI i)), some (.int ((dC D k (i * 3 + 1)))), some (.int ((dC D k (i * 3 + 2)))), some (.int (nI 1))] _ _ _ _ _ _
                        refine V_iincN d_Mo_callsNothing_166 rfl ?_
                        show pV Γ _ _ [some (.ref m), some (.int (nI r)), some (.int (nI 0)), some (.int (nI k)), some (.int (nI (23 + 21 * k + 2))), some (.int (nI (i + 1))), some (.int ((dC D k (i * 3 + 1)))), some (.int ((dC D k (i * 3 + 2)))), some (.int (nI 1))] _ _ _ _ _ _
                        refine V_goto (tgt := 26) d_Mo_callsNothing_169 (by decide) ?_
                        exact ih2 (i + 1) (by omega) (by omega) _ _ _ _ (pB_f (fun e => (acc_s.mp e).elim hb134 (fun e => by first | exact hb152 e.1 | exact e.2 hcal))).symm
                      · refine V_iload d_Mo_callsNothing_155 rfl ?_
                        refine V_if_neN (tgt := 164) d_Mo_callsNothing_157 (by decide) (by omega) (fun _ => ?_) (fun h => absurd h (by omega))
                        refine V_iconst (v := nI 0) d_Mo_callsNothing_164 (by decide +kernel) ?_
                        refine V_istore_n d_Mo_callsNothing_165 (Nat.le_of_ble_eq_true rfl) ?_
                        show pV Γ _ _ [some (.ref m), some (.int (nI r)), some (.int (nI 0)), some (.int (nI k)), some (.int (nI (23 + 21 * k + 2))), some (.int (nI i)), some (.int ((dC D k (i * 3 + 1)))), some (.int ((dC D k (i * 3 + 2)))), some (.int (nI 1))] _ _ _ _ _ _
                        refine V_iincN d_Mo_callsNothing_166 rfl ?_
                        show pV Γ _ _ [some (.ref m), some (.int (nI r)), some (.int (nI 0)), some (.int (nI k)), some (.int (nI (23 + 21 * k + 2))), some (.int (nI (i + 1))), some (.int ((dC D k (i * 3 + 1)))), some (.int ((dC D k (i * 3 + 2)))), some (.int (nI 1))] _ _ _ _ _ _
                        refine V_goto (tgt := 26) d_Mo_callsNothing_169 (by decide) ?_
                        exact ih2 (i + 1) (by omega) (by omega) _ _ _ _ (pB_f (fun e => (acc_s.mp e).elim hb134 (fun e => by first | exact hb152 e.1 | exact e.2 hcal))).symm
              · refine V_aload_n d_Mo_callsNothing_81 rfl ?_
                refine V_iload_n d_Mo_callsNothing_82 rfl ?_
                refine V_iload d_Mo_callsNothing_83 rfl ?_
                refine V_callV (As := [.int (nI r), .int ((dC D k (i * 3 + 2)))]) (rest := []) (lo' := [some (.ref m), some (.int (nI r)), some (.int ((dC D k (i * 3 + 2)))), none]) (bc1 := 0) (bs1 := 0) (bc' := 0) (bs' := 0) d_Mo_callsNothing_85 k_Mo_callsNothing_89 hH rfl rfl rfl rfl (by rfl) (by rfl) ?_
                refine c_Mo_find hH hF hr hR0 (fun hn => ?_) (fun j hj => ?_)
                · show pV Γ m_Mo_callsNothing 88 [some (.ref m), some (.int (nI r)), some (.int (pB (acc (lackP ld D) (dL D) k i))), some (.int (nI k)), some (.int (nI (23 + 21 * k + 2))), some (.int (nI i)), some (.int ((dC D k (i * 3 + 1)))), some (.int ((dC D k (i * 3 + 2)))), w8] [.int ((-1))] _ G 0 0 Q
                  refine V_iconst (v := (-1)) d_Mo_callsNothing_88 (by decide +kernel) ?_
                  refine V_icmp_eq (tgt := 96) d_Mo_callsNothing_89 (by decide) (fun _ => ?_) (fun e => absurd rfl e)
                  have hcal : ¬ pCal ld D (dC D k (i * 3 + 1)) (dC D k (i * 3 + 2)) := fun e => e.elim (fun ⟨_, j, hj, ej⟩ => hn j hj ej) (fun e => e.1 hb78)
                  refine V_iconst (v := nI 0) d_Mo_callsNothing_96 (by decide +kernel) ?_
                  refine V_goto (tgt := 131) d_Mo_callsNothing_97 (by decide) ?_
                  refine V_istore d_Mo_callsNothing_131 (Nat.le_of_ble_eq_true rfl) ?_
                  show pV Γ _ _ [some (.ref m), some (.int (nI r)), some (.int (pB (acc (lackP ld D) (dL D) k i))), some (.int (nI k)), some (.int (nI (23 + 21 * k + 2))), some (.int (nI i)), some (.int ((dC D k (i * 3 + 1)))), some (.int ((dC D k (i * 3 + 2)))), some (.int (nI 0))] _ _ _ _ _ _
                  refine V_iload_n d_Mo_callsNothing_133 rfl ?_
                  refine V_if_neB (tgt := 160) d_Mo_callsNothing_134 (by decide) (fun hb134 => ?_) (fun hb134 => ?_)
                  · refine V_iconst (v := nI 1) d_Mo_callsNothing_160 (by decide +kernel) ?_
                    refine V_goto (tgt := 165) d_Mo_callsNothing_161 (by decide) ?_
                    refine V_istore_n d_Mo_callsNothing_165 (Nat.le_of_ble_eq_true rfl) ?_
                    show pV Γ _ _ [some (.ref m), some (.int (nI r)), some (.int (nI 1)), some (.int (nI k)), some (.int (nI (23 + 21 * k + 2))), some (.int (nI i)), some (.int ((dC D k (i * 3 + 1)))), some (.int ((dC D k (i * 3 + 2)))), some (.int (nI 0))] _ _ _ _ _ _
                    refine V_iincN d_Mo_callsNothing_166 rfl ?_
                    show pV Γ _ _ [some (.ref m), some (.int (nI r)), some (.int (nI 1)), some (.int (nI k)), some (.int (nI (23 + 21 * k + 2))), some (.int (nI (i + 1))), some (.int ((dC D k (i * 3 + 1)))), some (.int ((dC D k (i * 3 + 2)))), some (.int (nI 0))] _ _ _ _ _ _
                    refine V_goto (tgt := 26) d_Mo_callsNothing_169 (by decide) ?_
                    exact ih2 (i + 1) (by omega) (by omega) _ _ _ _ (pB_t (acc_s.mpr (by first | exact Or.inl hb134 | exact Or.inr ⟨hb152, hcal⟩))).symm
                  · refine V_aload_n d_Mo_callsNothing_137 rfl ?_
                    refine V_iload_n d_Mo_callsNothing_138 rfl ?_
                    refine V_iload d_Mo_callsNothing_139 rfl ?_
                    refine V_iconst (v := nI 1) d_Mo_callsNothing_141 (by decide +kernel) ?_
                    refine V_iaddN d_Mo_callsNothing_142 ?_
                    refine V_iconst (v := nI 3) d_Mo_callsNothing_143 (by decide +kernel) ?_
                    refine V_iload d_Mo_callsNothing_144 rfl ?_
                    refine V_imulN d_Mo_callsNothing_146 ?_
                    refine V_iaddN d_Mo_callsNothing_147 ?_
                    refine V_callV (As := [.int (nI r), .int (nI (23 + 21 * k + 2 + 1 + (3 * i)))]) (rest := []) (lo' := [some (.ref m), some (.int (nI r)), some (.int (nI (23 + 21 * k + 2 + 1 + (3 * i))))]) (bc1 := 0) (bs1 := 0) (bc' := 0) (bs' := 0) d_Mo_callsNothing_148 k_Mo_callsNothing_69 hH rfl rfl rfl rfl (by rfl) (by rfl) ?_
                    refine c_Mo_get hH hF (by omega) ?_
                    rw [show 107 * r + (23 + 21 * k + 2 + 1 + 3 * i) = 107 * r + (23 + 21 * k + 3 + (i * 3)) by omega, (hr8 k (by omega)).2.2.2 (i * 3) (by omega)]
                    show pV Γ m_Mo_callsNothing 151 [some (.ref m), some (.int (nI r)), some (.int (pB (acc (lackP ld D) (dL D) k i))), some (.int (nI k)), some (.int (nI (23 + 21 * k + 2))), some (.int (nI i)), some (.int ((dC D k (i * 3 + 1)))), some (.int ((dC D k (i * 3 + 2)))), some (.int (nI 0))] [.int ((dC D k (i * 3)))] _ G 0 0 Q
                    refine V_iconst (v := nI 1) d_Mo_callsNothing_151 (by decide +kernel) ?_
                    refine V_icmp_ne (tgt := 164) d_Mo_callsNothing_152 (by decide) (fun hb152 => ?_) (fun hb152 => ?_)
                    · refine V_iconst (v := nI 0) d_Mo_callsNothing_164 (by decide +kernel) ?_
                      refine V_istore_n d_Mo_callsNothing_165 (Nat.le_of_ble_eq_true rfl) ?_
                      show pV Γ _ _ [some (.ref m), some (.int (nI r)), some (.int (nI 0)), some (.int (nI k)), some (.int (nI (23 + 21 * k + 2))), some (.int (nI i)), some (.int ((dC D k (i * 3 + 1)))), some (.int ((dC D k (i * 3 + 2)))), some (.int (nI 0))] _ _ _ _ _ _
                      refine V_iincN d_Mo_callsNothing_166 rfl ?_
                      show pV Γ _ _ [some (.ref m), some (.int (nI r)), some (.int (nI 0)), some (.int (nI k)), some (.int (nI (23 + 21 * k + 2))), some (.int (nI (i + 1))), some (.int ((dC D k (i * 3 + 1)))), some (.int ((dC D k (i * 3 + 2)))), some (.int (nI 0))] _ _ _ _ _ _
                      refine V_goto (tgt := 26) d_Mo_callsNothing_169 (by decide) ?_
                      exact ih2 (i + 1) (by omega) (by omega) _ _ _ _ (pB_f (fun e => (acc_s.mp e).elim hb134 (fun e => by first | exact hb152 e.1 | exact e.2 hcal))).symm
                    · refine V_iload d_Mo_callsNothing_155 rfl ?_
                      refine V_if_neN (tgt := 164) d_Mo_callsNothing_157 (by decide) (by omega) (fun h => absurd h (by omega)) (fun _ => ?_)
                      refine V_iconst (v := nI 1) d_Mo_callsNothing_160 (by decide +kernel) ?_
                      refine V_goto (tgt := 165) d_Mo_callsNothing_161 (by decide) ?_
                      refine V_istore_n d_Mo_callsNothing_165 (Nat.le_of_ble_eq_true rfl) ?_
                      show pV Γ _ _ [some (.ref m), some (.int (nI r)), some (.int (nI 1)), some (.int (nI k)), some (.int (nI (23 + 21 * k + 2))), some (.int (nI i)), some (.int ((dC D k (i * 3 + 1)))), some (.int ((dC D k (i * 3 + 2)))), some (.int (nI 0))] _ _ _ _ _ _
                      refine V_iincN d_Mo_callsNothing_166 rfl ?_
                      show pV Γ _ _ [some (.ref m), some (.int (nI r)), some (.int (nI 1)), some (.int (nI k)), some (.int (nI (23 + 21 * k + 2))), some (.int (nI (i + 1))), some (.int ((dC D k (i * 3 + 1)))), some (.int ((dC D k (i * 3 + 2)))), some (.int (nI 0))] _ _ _ _ _ _
                      refine V_goto (tgt := 26) d_Mo_callsNothing_169 (by decide) ?_
                      exact ih2 (i + 1) (by omega) (by omega) _ _ _ _ (pB_t (acc_s.mpr (by first | exact Or.inl hb134 | exact Or.inr ⟨hb152, hcal⟩))).symm
                · have hj4 : j < 4 := Nat.lt_of_lt_of_le hj.1 hR0.1.2.2.1
                  show pV Γ m_Mo_callsNothing 88 [some (.ref m), some (.int (nI r)), some (.int (pB (acc (lackP ld D) (dL D) k i))), some (.int (nI k)), some (.int (nI (23 + 21 * k + 2))), some (.int (nI i)), some (.int ((dC D k (i * 3 + 1)))), some (.int ((dC D k (i * 3 + 2)))), w8] [.int (nI (23 + 21 * j))] _ G 0 0 Q
                  refine V_iconst (v := (-1)) d_Mo_callsNothing_88 (by decide +kernel) ?_
                  refine V_icmp_eq (tgt := 96) d_Mo_callsNothing_89 (by decide) (fun e => absurd e (nI_ne1 (by omega))) (fun _ => ?_)
                  have hcal : pCal ld D (dC D k (i * 3 + 1)) (dC D k (i * 3 + 2)) := Or.inl ⟨hb78, j, hj.1, hj.2.1⟩
                  refine V_iconst (v := nI 1) d_Mo_callsNothing_92 (by decide +kernel) ?_
                  refine V_goto (tgt := 131) d_Mo_callsNothing_93 (by decide) ?_
                  refine V_istore d_Mo_callsNothing_131 (Nat.le_of_ble_eq_true rfl) ?_
                  show pV Γ _ _ [some (.ref m), some (.int (nI r)), some (.int (pB (acc (lackP ld D) (dL D) k i))), some (.int (nI k)), some (.int (nI (23 + 21 * k + 2))), some (.int (nI i)), some (.int ((dC D k (i * 3 + 1)))), some (.int ((dC D k (i * 3 + 2)))), some (.int (nI 1))] _ _ _ _ _ _
                  refine V_iload_n d_Mo_callsNothing_133 rfl ?_
                  refine V_if_neB (tgt := 160) d_Mo_callsNothing_134 (by decide) (fun hb134 => ?_) (fun hb134 => ?_)
                  · refine V_iconst (v := nI 1) d_Mo_callsNothing_160 (by decide +kernel) ?_
                    refine V_goto (tgt := 165) d_Mo_callsNothing_161 (by decide) ?_
                    refine V_istore_n d_Mo_callsNothing_165 (Nat.le_of_ble_eq_true rfl) ?_
                    show pV Γ _ _ [some (.ref m), some (.int (nI r)), some (.int (nI 1)), some (.int (nI k)), some (.int (nI (23 + 21 * k + 2))), some (.int (nI i)), some (.int ((dC D k (i * 3 + 1)))), some (.int ((dC D k (i * 3 + 2)))), some (.int (nI 1))] _ _ _ _ _ _
                    refine V_iincN d_Mo_callsNothing_166 rfl ?_
                    show pV Γ _ _ [some (.ref m), some (.int (nI r)), some (.int (nI 1)), some (.int (nI k)), some (.int (nI (23 + 21 * k + 2))), some (.int (nI (i + 1))), some (.int ((dC D k (i * 3 + 1)))), some (.int ((dC D k (i * 3 + 2)))), some (.int (nI 1))] _ _ _ _ _ _
                    refine V_goto (tgt := 26) d_Mo_callsNothing_169 (by decide) ?_
                    exact ih2 (i + 1) (by omega) (by omega) _ _ _ _ (pB_t (acc_s.mpr (by first | exact Or.inl hb134 | exact Or.inr ⟨hb152, hcal⟩))).symm
                  · refine V_aload_n d_Mo_callsNothing_137 rfl ?_
                    refine V_iload_n d_Mo_callsNothing_138 rfl ?_
                    refine V_iload d_Mo_callsNothing_139 rfl ?_
                    refine V_iconst (v := nI 1) d_Mo_callsNothing_141 (by decide +kernel) ?_
                    refine V_iaddN d_Mo_callsNothing_142 ?_
                    refine V_iconst (v := nI 3) d_Mo_callsNothing_143 (by decide +kernel) ?_
                    refine V_iload d_Mo_callsNothing_144 rfl ?_
                    refine V_imulN d_Mo_callsNothing_146 ?_
                    refine V_iaddN d_Mo_callsNothing_147 ?_
                    refine V_callV (As := [.int (nI r), .int (nI (23 + 21 * k + 2 + 1 + (3 * i)))]) (rest := []) (lo' := [some (.ref m), some (.int (nI r)), some (.int (nI (23 + 21 * k + 2 + 1 + (3 * i))))]) (bc1 := 0) (bs1 := 0) (bc' := 0) (bs' := 0) d_Mo_callsNothing_148 k_Mo_callsNothing_69 hH rfl rfl rfl rfl (by rfl) (by rfl) ?_
                    refine c_Mo_get hH hF (by omega) ?_
                    rw [show 107 * r + (23 + 21 * k + 2 + 1 + 3 * i) = 107 * r + (23 + 21 * k + 3 + (i * 3)) by omega, (hr8 k (by omega)).2.2.2 (i * 3) (by omega)]
                    show pV Γ m_Mo_callsNothing 151 [some (.ref m), some (.int (nI r)), some (.int (pB (acc (lackP ld D) (dL D) k i))), some (.int (nI k)), some (.int (nI (23 + 21 * k + 2))), some (.int (nI i)), some (.int ((dC D k (i * 3 + 1)))), some (.int ((dC D k (i * 3 + 2)))), some (.int (nI 1))] [.int ((dC D k (i * 3)))] _ G 0 0 Q
                    refine V_iconst (v := nI 1) d_Mo_callsNothing_151 (by decide +kernel) ?_
                    refine V_icmp_ne (tgt := 164) d_Mo_callsNothing_152 (by decide) (fun hb152 => ?_) (fun hb152 => ?_)
                    · refine V_iconst (v := nI 0) d_Mo_callsNothing_164 (by decide +kernel) ?_
                      refine V_istore_n d_Mo_callsNothing_165 (Nat.le_of_ble_eq_true rfl) ?_
                      show pV Γ _ _ [some (.ref m), some (.int (nI r)), some (.int (nI 0)), some (.int (nI k)), some (.int (nI (23 + 21 * k + 2))), some (.int (nI i)), some (.int ((dC D k (i * 3 + 1)))), some (.int ((dC D k (i * 3 + 2)))), some (.int (nI 1))] _ _ _ _ _ _
                      refine V_iincN d_Mo_callsNothing_166 rfl ?_
                      show pV Γ _ _ [some (.ref m), some (.int (nI r)), some (.int (nI 0)), some (.int (nI k)), some (.int (nI (23 + 21 * k + 2))), some (.int (nI (i + 1))), some (.int ((dC D k (i * 3 + 1)))), some (.int ((dC D k (i * 3 + 2)))), some (.int (nI 1))] _ _ _ _ _ _
                      refine V_goto (tgt := 26) d_Mo_callsNothing_169 (by decide) ?_
                      exact ih2 (i + 1) (by omega) (by omega) _ _ _ _ (pB_f (fun e => (acc_s.mp e).elim hb134 (fun e => by first | exact hb152 e.1 | exact e.2 hcal))).symm
                    · refine V_iload d_Mo_callsNothing_155 rfl ?_
                      refine V_if_neN (tgt := 164) d_Mo_callsNothing_157 (by decide) (by omega) (fun _ => ?_) (fun h => absurd h (by omega))
                      refine V_iconst (v := nI 0) d_Mo_callsNothing_164 (by decide +kernel) ?_
                      refine V_istore_n d_Mo_callsNothing_165 (Nat.le_of_ble_eq_true rfl) ?_
                      show pV Γ _ _ [some (.ref m), some (.int (nI r)), some (.int (nI 0)), some (.int (nI k)), some (.int (nI (23 + 21 * k + 2))), some (.int (nI i)), some (.int ((dC D k (i * 3 + 1)))), some (.int ((dC D k (i * 3 + 2)))), some (.int (nI 1))] _ _ _ _ _ _
                      refine V_iincN d_Mo_callsNothing_166 rfl ?_
                      show pV Γ _ _ [some (.ref m), some (.int (nI r)), some (.int (nI 0)), some (.int (nI k)), some (.int (nI (23 + 21 * k + 2))), some (.int (nI (i + 1))), some (.int ((dC D k (i * 3 + 1)))), some (.int ((dC D k (i * 3 + 2)))), some (.int (nI 1))] _ _ _ _ _ _
                      refine V_goto (tgt := 26) d_Mo_callsNothing_169 (by decide) ?_
                      exact ih2 (i + 1) (by omega) (by omega) _ _ _ _ (pB_f (fun e => (acc_s.mp e).elim hb134 (fun e => by first | exact hb152 e.1 | exact e.2 hcal))).symm
        exact inner (dL D k + 1) 0 (by omega) (by omega) _ _ _ _ rfl
  refine V_iconst (v := nI 0) d_Mo_callsNothing_0 (by decide +kernel) ?_
  refine V_istore_n d_Mo_callsNothing_1 (Nat.le_of_ble_eq_true rfl) ?_
  show pV Γ _ _ [some (.ref m), some (.int (nI r)), some (.int (nI 0)), none, none, none, none, none, none] _ _ _ _ _ _
  refine V_iconst (v := nI 0) d_Mo_callsNothing_2 (by decide +kernel) ?_
  refine V_istore_n d_Mo_callsNothing_3 (Nat.le_of_ble_eq_true rfl) ?_
  show pV Γ _ _ [some (.ref m), some (.int (nI r)), some (.int (nI 0)), some (.int (nI 0)), none, none, none, none, none] _ _ _ _ _ _
  exact loop (dNm D + 1) 0 (by omega) (by omega) _ _ _ _ _ _ (pB_f acc_z).symm
set_option maxHeartbeats 1000000 in
theorem c_Mo_plainRules {Γ : pmE} {G : pmG} {n : Nat} {Q : pmPost} {m : Nat} {ch ba : Int32} {f : Nat → Int32} {cu : Nat → Nat} {r : Nat} {D : Dfn} {ld : LdS} (hH : G m = some (.inr (kMo, moFs m ch ba))) (hF : G (m + 1) = some (.inl (0, 4387, .inl f))) (hCu : G (m + 2) = some (.inl (0, 6, .inl (fun j => nI (cu j))))) (hr : r < 41) (hR : isRow f r D) (hL : moL f cu ld) (hQ : Q (some (.int (nI (pAlone ld D)))) n G) : pV Γ m_Mo_plainRules 0 [some (.ref m), some (.int (nI r)), none, none] [] n G 0 0 Q := by
  have hR0 := hR
  obtain ⟨⟨o1, o2, o3, o4⟩, hr1, hr2, hr3, hr4, hr5, hr7, hr8⟩ := hR
  refine V_aload_n d_Mo_plainRules_0 rfl ?_
  refine V_iload_n d_Mo_plainRules_1 rfl ?_
  refine V_iconst (v := nI 0) d_Mo_plainRules_2 (by decide +kernel) ?_
  refine V_callV (As := [.int (nI r), .int (nI 0)]) (rest := []) (lo' := [some (.ref m), some (.int (nI r)), some (.int (nI 0))]) (bc1 := 0) (bs1 := 0) (bc' := 0) (bs' := 0) d_Mo_plainRules_3 k_Mo_plainRules_69 hH rfl rfl rfl rfl (by rfl) (by rfl) ?_
  refine c_Mo_get hH hF (by omega) ?_
  rw [hr1 0 (by omega)]
  show pV Γ m_Mo_plainRules 6 [some (.ref m), some (.int (nI r)), none, none] [.int ((dP D 0))] _ G 0 0 Q
  refine V_iconst (v := nI 1) d_Mo_plainRules_6 (by decide +kernel) ?_
  refine V_icmp_lt (tgt := 21) d_Mo_plainRules_7 (by decide) (fun hb7 => ?_) (fun hb7 => ?_)
  · refine V_iconst (v := nI 1) d_Mo_plainRules_21 (by decide +kernel) ?_
    exact V_ireturn d_Mo_plainRules_22 rfl (pQ_n hQ (by unfold pAlone; rw [pI_t (by first | exact Or.inl hb7 | exact Or.inr (Int32.not_le.mp hb18))]))
  · refine V_aload_n d_Mo_plainRules_10 rfl ?_
    refine V_iload_n d_Mo_plainRules_11 rfl ?_
    refine V_iconst (v := nI 0) d_Mo_plainRules_12 (by decide +kernel) ?_
    refine V_callV (As := [.int (nI r), .int (nI 0)]) (rest := []) (lo' := [some (.ref m), some (.int (nI r)), some (.int (nI 0))]) (bc1 := 0) (bs1 := 0) (bc' := 0) (bs' := 0) d_Mo_plainRules_13 k_Mo_plainRules_69 hH rfl rfl rfl rfl (by rfl) (by rfl) ?_
    refine c_Mo_get hH hF (by omega) ?_
    rw [hr1 0 (by omega)]
    show pV Γ m_Mo_plainRules 16 [some (.ref m), some (.int (nI r)), none, none] [.int ((dP D 0))] _ G 0 0 Q
    refine V_bipush (v := nI 9) d_Mo_plainRules_16 (by decide +kernel) ?_
    refine V_icmp_le (tgt := 23) d_Mo_plainRules_18 (by decide) (fun hb18 => ?_) (fun hb18 => ?_)
    · refine V_aload_n d_Mo_plainRules_23 rfl ?_
      refine V_iload_n d_Mo_plainRules_24 rfl ?_
      refine V_bipush (v := nI 6) d_Mo_plainRules_25 (by decide +kernel) ?_
      refine V_iconst (v := nI 1) d_Mo_plainRules_27 (by decide +kernel) ?_
      refine V_aload_n d_Mo_plainRules_28 rfl ?_
      refine V_iload_n d_Mo_plainRules_29 rfl ?_
      refine V_iconst (v := nI 5) d_Mo_plainRules_30 (by decide +kernel) ?_
      refine V_callV (As := [.int (nI r), .int (nI 5)]) (rest := [.int (nI 1), .int (nI 6), .int (nI r), .ref m]) (lo' := [some (.ref m), some (.int (nI r)), some (.int (nI 5))]) (bc1 := 0) (bs1 := 0) (bc' := 0) (bs' := 0) d_Mo_plainRules_31 k_Mo_plainRules_69 hH rfl rfl rfl rfl (by rfl) (by rfl) ?_
      refine c_Mo_get hH hF (by omega) ?_
      rw [hr2]
      show pV Γ m_Mo_plainRules 34 [some (.ref m), some (.int (nI r)), none, none] [.int (nI (dNi D)), .int (nI 1), .int (nI 6), .int (nI r), .ref m] _ G 0 0 Q
      refine V_callV (As := [.int (nI r), .int (nI 6), .int (nI 1), .int (nI (dNi D))]) (rest := []) (lo' := [some (.ref m), some (.int (nI r)), some (.int (nI 6)), some (.int (nI 1)), some (.int (nI (dNi D))), none, none, none]) (bc1 := 0) (bs1 := 0) (bc' := 0) (bs' := 0) d_Mo_plainRules_34 k_Mo_plainRules_99 hH rfl rfl rfl rfl (by rfl) (by rfl) ?_
      refine c_Mo_twice hH hF hr (by omega) (fun i hi => by omega) ?_
      rw [pB_c (show pDup _ _ ↔ pDup (dNi D) (dI D) from pDup_c (fun i hi => (by rw [Nat.one_mul]; exact hr3 i hi)))]
      show pV Γ m_Mo_plainRules 37 [some (.ref m), some (.int (nI r)), none, none] [.int (pB (pDup (dNi D) (dI D)))] _ G 0 0 Q
      refine V_if_neB (tgt := 77) d_Mo_plainRules_37 (by decide) (fun hb37 => ?_) (fun hb37 => ?_)
      · refine V_iconst (v := nI 1) d_Mo_plainRules_77 (by decide +kernel) ?_
        refine V_goto (tgt := 82) d_Mo_plainRules_78 (by decide) ?_
        refine V_istore_n d_Mo_plainRules_82 (Nat.le_of_ble_eq_true rfl) ?_
        show pV Γ _ _ [some (.ref m), some (.int (nI r)), some (.int (nI 1)), none] _ _ _ _ _ _
        refine V_iload_n d_Mo_plainRules_83 rfl ?_
        refine V_if_neN (tgt := 95) d_Mo_plainRules_84 (by decide) (by omega) (fun _ => ?_) (fun h => absurd h (by omega))
        refine V_iconst (v := nI 2) d_Mo_plainRules_95 (by decide +kernel) ?_
        exact V_ireturn d_Mo_plainRules_96 rfl (pQ_n hQ (by unfold pAlone; rw [pI_f (fun e => e.elim hb7 (fun e => absurd hb18 (Int32.not_le.mpr e))), pI_t (by first | exact Or.inl hb37 | exact Or.inr (Or.inl hb55) | exact Or.inr (Or.inr (Or.inl hb74)) | exact Or.inr (Or.inr (Or.inr hb92)))]))
      · refine V_aload_n d_Mo_plainRules_40 rfl ?_
        refine V_iload_n d_Mo_plainRules_41 rfl ?_
        refine V_bipush (v := nI 10) d_Mo_plainRules_42 (by decide +kernel) ?_
        refine V_iconst (v := nI 3) d_Mo_plainRules_44 (by decide +kernel) ?_
        refine V_aload_n d_Mo_plainRules_45 rfl ?_
        refine V_iload_n d_Mo_plainRules_46 rfl ?_
        refine V_bipush (v := nI 9) d_Mo_plainRules_47 (by decide +kernel) ?_
        refine V_callV (As := [.int (nI r), .int (nI 9)]) (rest := [.int (nI 3), .int (nI 10), .int (nI r), .ref m]) (lo' := [some (.ref m), some (.int (nI r)), some (.int (nI 9))]) (bc1 := 0) (bs1 := 0) (bc' := 0) (bs' := 0) d_Mo_plainRules_49 k_Mo_plainRules_69 hH rfl rfl rfl rfl (by rfl) (by rfl) ?_
        refine c_Mo_get hH hF (by omega) ?_
        rw [hr4]
        show pV Γ m_Mo_plainRules 52 [some (.ref m), some (.int (nI r)), none, none] [.int (nI (dNf D)), .int (nI 3), .int (nI 10), .int (nI r), .ref m] _ G 0 0 Q
        refine V_callV (As := [.int (nI r), .int (nI 10), .int (nI 3), .int (nI (dNf D))]) (rest := []) (lo' := [some (.ref m), some (.int (nI r)), some (.int (nI 10)), some (.int (nI 3)), some (.int (nI (dNf D))), none, none, none]) (bc1 := 0) (bs1 := 0) (bc' := 0) (bs' := 0) d_Mo_plainRules_52 k_Mo_plainRules_99 hH rfl rfl rfl rfl (by rfl) (by rfl) ?_
        refine c_Mo_twice hH hF hr (by omega) (fun i hi => by omega) ?_
        rw [pB_c (show pDup _ _ ↔ pDup (dNf D) (fun k => dF D (k * 3)) from pDup_c (fun i hi => (by rw [Nat.mul_comm 3 i]; exact hr5 (i * 3) (by omega))))]
        show pV Γ m_Mo_plainRules 55 [some (.ref m), some (.int (nI r)), none, none] [.int (pB (pDup (dNf D) (fun k => dF D (k * 3))))] _ G 0 0 Q
        refine V_if_neB (tgt := 77) d_Mo_plainRules_55 (by decide) (fun hb55 => ?_) (fun hb55 => ?_)
        · refine V_iconst (v := nI 1) d_Mo_plainRules_77 (by decide +kernel) ?_
          refine V_goto (tgt := 82) d_Mo_plainRules_78 (by decide) ?_
          refine V_istore_n d_Mo_plainRules_82 (Nat.le_of_ble_eq_true rfl) ?_
          show pV Γ _ _ [some (.ref m), some (.int (nI r)), some (.int (nI 1)), none] _ _ _ _ _ _
          refine V_iload_n d_Mo_plainRules_83 rfl ?_
          refine V_if_neN (tgt := 95) d_Mo_plainRules_84 (by decide) (by omega) (fun _ => ?_) (fun h => absurd h (by omega))
          refine V_iconst (v := nI 2) d_Mo_plainRules_95 (by decide +kernel) ?_
          exact V_ireturn d_Mo_plainRules_96 rfl (pQ_n hQ (by unfold pAlone; rw [pI_f (fun e => e.elim hb7 (fun e => absurd hb18 (Int32.not_le.mpr e))), pI_t (by first | exact Or.inl hb37 | exact Or.inr (Or.inl hb55) | exact Or.inr (Or.inr (Or.inl hb74)) | exact Or.inr (Or.inr (Or.inr hb92)))]))
        · refine V_aload_n d_Mo_plainRules_58 rfl ?_
          refine V_iload_n d_Mo_plainRules_59 rfl ?_
          refine V_bipush (v := nI 23) d_Mo_plainRules_60 (by decide +kernel) ?_
          refine V_bipush (v := nI 21) d_Mo_plainRules_62 (by decide +kernel) ?_
          refine V_aload_n d_Mo_plainRules_64 rfl ?_
          refine V_iload_n d_Mo_plainRules_65 rfl ?_
          refine V_bipush (v := nI 22) d_Mo_plainRules_66 (by decide +kernel) ?_
          refine V_callV (As := [.int (nI r), .int (nI 22)]) (rest := [.int (nI 21), .int (nI 23), .int (nI r), .ref m]) (lo' := [some (.ref m), some (.int (nI r)), some (.int (nI 22))]) (bc1 := 0) (bs1 := 0) (bc' := 0) (bs' := 0) d_Mo_plainRules_68 k_Mo_plainRules_69 hH rfl rfl rfl rfl (by rfl) (by rfl) ?_
          refine c_Mo_get hH hF (by omega) ?_
          rw [hr7]
          show pV Γ m_Mo_plainRules 71 [some (.ref m), some (.int (nI r)), none, none] [.int (nI (dNm D)), .int (nI 21), .int (nI 23), .int (nI r), .ref m] _ G 0 0 Q
          refine V_callV (As := [.int (nI r), .int (nI 23), .int (nI 21), .int (nI (dNm D))]) (rest := []) (lo' := [some (.ref m), some (.int (nI r)), some (.int (nI 23)), some (.int (nI 21)), some (.int (nI (dNm D))), none, none, none]) (bc1 := 0) (bs1 := 0) (bc' := 0) (bs' := 0) d_Mo_plainRules_71 k_Mo_plainRules_99 hH rfl rfl rfl rfl (by rfl) (by rfl) ?_
          refine c_Mo_twice hH hF hr (by omega) (fun i hi => by omega) ?_
          rw [pB_c (show pDup _ _ ↔ pDup (dNm D) (dN D) from pDup_c (fun i hi => (hr8 i hi).1))]
          show pV Γ m_Mo_plainRules 74 [some (.ref m), some (.int (nI r)), none, none] [.int (pB (pDup (dNm D) (dN D)))] _ G 0 0 Q
          refine V_if_eqB (tgt := 81) d_Mo_plainRules_74 (by decide) (fun hb74 => ?_) (fun hb74 => ?_)
          · refine V_iconst (v := nI 0) d_Mo_plainRules_81 (by decide +kernel) ?_
            refine V_istore_n d_Mo_plainRules_82 (Nat.le_of_ble_eq_true rfl) ?_
            show pV Γ _ _ [some (.ref m), some (.int (nI r)), some (.int (nI 0)), none] _ _ _ _ _ _
            refine V_iload_n d_Mo_plainRules_83 rfl ?_
            refine V_if_neN (tgt := 95) d_Mo_plainRules_84 (by decide) (by omega) (fun h => absurd h (by omega)) (fun _ => ?_)
            refine V_aload_n d_Mo_plainRules_87 rfl ?_
            refine V_iload_n d_Mo_plainRules_88 rfl ?_
            refine V_callV (As := [.int (nI r)]) (rest := []) (lo' := [some (.ref m), some (.int (nI r)), none, none, none, none, none]) (bc1 := 0) (bs1 := 0) (bc' := 0) (bs' := 0) d_Mo_plainRules_89 k_Mo_plainRules_103 hH rfl rfl rfl rfl (by rfl) (by rfl) ?_
            refine c_Mo_strangeOp hH hF hr hR0 ?_
            show pV Γ m_Mo_plainRules 92 [some (.ref m), some (.int (nI r)), some (.int (nI 0)), none] [.int (pB (pUnk D))] _ G 0 0 Q
            refine V_if_eqB (tgt := 97) d_Mo_plainRules_92 (by decide) (fun hb92 => ?_) (fun hb92 => ?_)
            · refine V_aload_n d_Mo_plainRules_97 rfl ?_
              refine V_iload_n d_Mo_plainRules_98 rfl ?_
              refine V_callV (As := [.int (nI r)]) (rest := []) (lo' := [some (.ref m), some (.int (nI r)), none, none, none, none]) (bc1 := 0) (bs1 := 0) (bc' := 0) (bs' := 0) d_Mo_plainRules_99 k_Mo_plainRules_106 hH rfl rfl rfl rfl (by rfl) (by rfl) ?_
              refine c_Mo_circle hH hF hCu hr hR0 hL ?_
              show pV Γ m_Mo_plainRules 102 [some (.ref m), some (.int (nI r)), some (.int (nI 0)), none] [.int (pB (pMeet ld (dP D 1) 7 (dP D 2)))] _ G 0 0 Q
              refine V_if_eqB (tgt := 107) d_Mo_plainRules_102 (by decide) (fun hb102 => ?_) (fun hb102 => ?_)
              · refine V_aload_n d_Mo_plainRules_107 rfl ?_
                refine V_iload_n d_Mo_plainRules_108 rfl ?_
                refine V_iconst (v := nI 2) d_Mo_plainRules_109 (by decide +kernel) ?_
                refine V_callV (As := [.int (nI r), .int (nI 2)]) (rest := []) (lo' := [some (.ref m), some (.int (nI r)), some (.int (nI 2))]) (bc1 := 0) (bs1 := 0) (bc' := 0) (bs' := 0) d_Mo_plainRules_110 k_Mo_plainRules_69 hH rfl rfl rfl rfl (by rfl) (by rfl) ?_
                refine c_Mo_get hH hF (by omega) ?_
                rw [hr1 2 (by omega)]
                show pV Γ m_Mo_plainRules 113 [some (.ref m), some (.int (nI r)), some (.int (nI 0)), none] [.int ((dP D 2))] _ G 0 0 Q
                refine V_istore_n d_Mo_plainRules_113 (Nat.le_of_ble_eq_true rfl) ?_
                show pV Γ _ _ [some (.ref m), some (.int (nI r)), some (.int (nI 0)), some (.int ((dP D 2)))] _ _ _ _ _ _
                refine V_iload_n d_Mo_plainRules_114 rfl ?_
                refine V_iconst (v := (-1)) d_Mo_plainRules_115 (by decide +kernel) ?_
                refine V_icmp_eq (tgt := 127) d_Mo_plainRules_116 (by decide) (fun hb116 => ?_) (fun hb116 => ?_)
                · refine V_aload_n d_Mo_plainRules_127 rfl ?_
                  refine V_iload_n d_Mo_plainRules_128 rfl ?_
                  refine V_callV (As := [.int (nI r)]) (rest := []) (lo' := [some (.ref m), some (.int (nI r)), none, none, none, none, none, none, none]) (bc1 := 0) (bs1 := 0) (bc' := 0) (bs' := 0) d_Mo_plainRules_129 k_Mo_plainRules_109 hH rfl rfl rfl rfl (by rfl) (by rfl) ?_
                  refine c_Mo_callsNothing hH hF hCu hr hR0 hL ?_
                  show pV Γ m_Mo_plainRules 132 [some (.ref m), some (.int (nI r)), some (.int (nI 0)), some (.int ((dP D 2)))] [.int (pB (pLack ld D))] _ G 0 0 Q
                  refine V_if_eqB (tgt := 139) d_Mo_plainRules_132 (by decide) (fun hb132 => ?_) (fun hb132 => ?_)
                  · refine V_iconst (v := nI 0) d_Mo_plainRules_139 (by decide +kernel) ?_
                    exact V_ireturn d_Mo_plainRules_140 rfl (pQ_n hQ (by unfold pAlone; rw [pI_f (fun e => e.elim hb7 (fun e => absurd hb18 (Int32.not_le.mpr e))), pI_f (fun e => e.elim hb37 (fun e => e.elim hb55 (fun e => e.elim hb74 hb92))), pI_f hb102, pI_f (fun e => e.elim (fun e => by first | exact e.1 hb116 | exact e.2 hb124) hb132)]))
                  · refine V_iconst (v := nI 4) d_Mo_plainRules_135 (by decide +kernel) ?_
                    refine V_goto (tgt := 140) d_Mo_plainRules_136 (by decide) ?_
                    exact V_ireturn d_Mo_plainRules_140 rfl (pQ_n hQ (by unfold pAlone; rw [pI_f (fun e => e.elim hb7 (fun e => absurd hb18 (Int32.not_le.mpr e))), pI_f (fun e => e.elim hb37 (fun e => e.elim hb55 (fun e => e.elim hb74 hb92))), pI_f hb102, pI_t (by first | exact Or.inl ⟨hb116, hb124⟩ | exact Or.inr hb132)]))
                · refine V_aload_n d_Mo_plainRules_119 rfl ?_
                  refine V_iload_n d_Mo_plainRules_120 rfl ?_
                  refine V_callV (As := [.int ((dP D 2))]) (rest := []) (lo' := [some (.ref m), some (.int ((dP D 2)))]) (bc1 := 0) (bs1 := 0) (bc' := 0) (bs' := 0) d_Mo_plainRules_121 k_Mo_plainRules_77 hH rfl rfl rfl rfl (by rfl) (by rfl) ?_
                  refine c_Mo_loaded hH hCu hL.lt ?_
                  rw [pB_c (hL.ldd (dP D 2))]
                  show pV Γ m_Mo_plainRules 124 [some (.ref m), some (.int (nI r)), some (.int (nI 0)), some (.int ((dP D 2)))] [.int (pB (pLd ld (dP D 2)))] _ G 0 0 Q
                  refine V_if_eqB (tgt := 135) d_Mo_plainRules_124 (by decide) (fun hb124 => ?_) (fun hb124 => ?_)
                  · refine V_iconst (v := nI 4) d_Mo_plainRules_135 (by decide +kernel) ?_
                    refine V_goto (tgt := 140) d_Mo_plainRules_136 (by decide) ?_
                    exact V_ireturn d_Mo_plainRules_140 rfl (pQ_n hQ (by unfold pAlone; rw [pI_f (fun e => e.elim hb7 (fun e => absurd hb18 (Int32.not_le.mpr e))), pI_f (fun e => e.elim hb37 (fun e => e.elim hb55 (fun e => e.elim hb74 hb92))), pI_f hb102, pI_t (by first | exact Or.inl ⟨hb116, hb124⟩ | exact Or.inr hb132)]))
                  · refine V_aload_n d_Mo_plainRules_127 rfl ?_
                    refine V_iload_n d_Mo_plainRules_128 rfl ?_
                    refine V_callV (As := [.int (nI r)]) (rest := []) (lo' := [some (.ref m), some (.int (nI r)), none, none, none, none, none, none, none]) (bc1 := 0) (bs1 := 0) (bc' := 0) (bs' := 0) d_Mo_plainRules_129 k_Mo_plainRules_109 hH rfl rfl rfl rfl (by rfl) (by rfl) ?_
                    refine c_Mo_callsNothing hH hF hCu hr hR0 hL ?_
                    show pV Γ m_Mo_plainRules 132 [some (.ref m), some (.int (nI r)), some (.int (nI 0)), some (.int ((dP D 2)))] [.int (pB (pLack ld D))] _ G 0 0 Q
                    refine V_if_eqB (tgt := 139) d_Mo_plainRules_132 (by decide) (fun hb132 => ?_) (fun hb132 => ?_)
                    · refine V_iconst (v := nI 0) d_Mo_plainRules_139 (by decide +kernel) ?_
                      exact V_ireturn d_Mo_plainRules_140 rfl (pQ_n hQ (by unfold pAlone; rw [pI_f (fun e => e.elim hb7 (fun e => absurd hb18 (Int32.not_le.mpr e))), pI_f (fun e => e.elim hb37 (fun e => e.elim hb55 (fun e => e.elim hb74 hb92))), pI_f hb102, pI_f (fun e => e.elim (fun e => by first | exact e.1 hb116 | exact e.2 hb124) hb132)]))
                    · refine V_iconst (v := nI 4) d_Mo_plainRules_135 (by decide +kernel) ?_
                      refine V_goto (tgt := 140) d_Mo_plainRules_136 (by decide) ?_
                      exact V_ireturn d_Mo_plainRules_140 rfl (pQ_n hQ (by unfold pAlone; rw [pI_f (fun e => e.elim hb7 (fun e => absurd hb18 (Int32.not_le.mpr e))), pI_f (fun e => e.elim hb37 (fun e => e.elim hb55 (fun e => e.elim hb74 hb92))), pI_f hb102, pI_t (by first | exact Or.inl ⟨hb116, hb124⟩ | exact Or.inr hb132)]))
              · refine V_iconst (v := nI 3) d_Mo_plainRules_105 (by decide +kernel) ?_
                exact V_ireturn d_Mo_plainRules_106 rfl (pQ_n hQ (by unfold pAlone; rw [pI_f (fun e => e.elim hb7 (fun e => absurd hb18 (Int32.not_le.mpr e))), pI_f (fun e => e.elim hb37 (fun e => e.elim hb55 (fun e => e.elim hb74 hb92))), pI_t hb102]))
            · refine V_iconst (v := nI 2) d_Mo_plainRules_95 (by decide +kernel) ?_
              exact V_ireturn d_Mo_plainRules_96 rfl (pQ_n hQ (by unfold pAlone; rw [pI_f (fun e => e.elim hb7 (fun e => absurd hb18 (Int32.not_le.mpr e))), pI_t (by first | exact Or.inl hb37 | exact Or.inr (Or.inl hb55) | exact Or.inr (Or.inr (Or.inl hb74)) | exact Or.inr (Or.inr (Or.inr hb92)))]))
          · refine V_iconst (v := nI 1) d_Mo_plainRules_77 (by decide +kernel) ?_
            refine V_goto (tgt := 82) d_Mo_plainRules_78 (by decide) ?_
            refine V_istore_n d_Mo_plainRules_82 (Nat.le_of_ble_eq_true rfl) ?_
            show pV Γ _ _ [some (.ref m), some (.int (nI r)), some (.int (nI 1)), none] _ _ _ _ _ _
            refine V_iload_n d_Mo_plainRules_83 rfl ?_
            refine V_if_neN (tgt := 95) d_Mo_plainRules_84 (by decide) (by omega) (fun _ => ?_) (fun h => absurd h (by omega))
            refine V_iconst (v := nI 2) d_Mo_plainRules_95 (by decide +kernel) ?_
            exact V_ireturn d_Mo_plainRules_96 rfl (pQ_n hQ (by unfold pAlone; rw [pI_f (fun e => e.elim hb7 (fun e => absurd hb18 (Int32.not_le.mpr e))), pI_t (by first | exact Or.inl hb37 | exact Or.inr (Or.inl hb55) | exact Or.inr (Or.inr (Or.inl hb74)) | exact Or.inr (Or.inr (Or.inr hb92)))]))
    · refine V_iconst (v := nI 1) d_Mo_plainRules_21 (by decide +kernel) ?_
      exact V_ireturn d_Mo_plainRules_22 rfl (pQ_n hQ (by unfold pAlone; rw [pI_t (by first | exact Or.inl hb7 | exact Or.inr (Int32.not_le.mp hb18))]))
