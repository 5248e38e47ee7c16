/-! Rules. -/
def pUnk (D : Dfn) : Prop := ∃ m, m < dNm D ∧ ∃ i, i < dL D m ∧ dC D m (i * 3) ≠ 0 ∧ dC D m (i * 3) ≠ nI 1
def pMeet (ld : LdS) (nm : Int32) : Nat → Int32 → Prop
  | 0, _ => False
  | k + 1, x => x = nm ∨ ∃ c L, c < 6 ∧ x = nI c ∧ ld c = some L ∧ pMeet ld nm k (dP L.2.1 2)
def pNamed (D : Dfn) (x : Int32) : Prop := ∃ j, j < dNm D ∧ dN D j = x
def pCal (ld : LdS) (D : Dfn) (a b : Int32) : Prop := (a = dP D 1 ∧ pNamed D b) ∨ (a ≠ dP D 1 ∧ ∃ c L, c < 6 ∧ a = nI c ∧ ld c = some L ∧ pNamed L.2.1 b)
def pLack (ld : LdS) (D : Dfn) : Prop := ∃ m, m < dNm D ∧ ∃ i, i < dL D m ∧ dC D m (i * 3) = nI 1 ∧ ¬ pCal ld D (dC D m (i * 3 + 1)) (dC D m (i * 3 + 2))
def pNoSup (ld : LdS) (D : Dfn) : Prop := dP D 2 ≠ -1 ∧ ¬ pLd ld (dP D 2)
noncomputable def pAlone (ld : LdS) (D : Dfn) : Nat := pI (dP D 0 < nI 1 ∨ nI 9 < dP D 0) 1 (pI (pDup (dNi D) (dI D) ∨ pDup (dNf D) (fun k => dF D (k * 3)) ∨ pDup (dNm D) (dN D) ∨ pUnk D) 2 (pI (pMeet ld (dP D 1) 7 (dP D 2)) 3 (pI (pNoSup ld D ∨ pLack ld D) 4 0)))
def pIfs (D E : Dfn) : Prop := dNi D = dNi E ∧ ∀ k, k < dNi D → ∃ m, m < dNi E ∧ dI E m = dI D k
def pFds (D E : Dfn) : Prop := dNf D = dNf E ∧ ∀ k, k < 3 * dNf D → dF D k = dF E k
def pNms (D E : Dfn) : Prop := ∀ k, k < dNm E → ∃ m, m < dNm D ∧ dN D m = dN E k
def pFlg (D E : Dfn) : Prop := ∀ k, k < dNm E → ∀ m, dFst D (dN E k) m → dG D m = dG E k
noncomputable def pBes (D : Dfn) (c : Int32) (E : Dfn) : Nat := pI (dP D 1 ≠ c) 5 (pI (dP D 2 ≠ dP E 2 ∨ ¬ pIfs D E) 6 (pI (¬ pFds D E) 7 (pI (¬ pNms E D) 8 (pI (¬ pNms D E) 9 (pI (dP D 3 ≠ dP E 3) 10 (pI (¬ pFlg D E) 11 (pI (dP D 4 ≠ dP E 4) 12 0)))))))
noncomputable def pRule (ld : LdS) (D : Dfn) (c : Int32) (E : Dfn) : Nat := if pAlone ld D = 0 then pBes D c E else pAlone ld D
theorem pAlone_le (ld : LdS) (D : Dfn) : pAlone ld D ≤ 4 := by
  unfold pAlone pI
  repeat' split
  all_goals omega
theorem pQ_n {Q : pmPost} {n : Nat} {G : pmG} {k j : Nat} (hQ : Q (some (.int (nI k))) n G) (e : k = j) : Q (some (.int (nI j))) n G := e ▸ hQ
set_option maxHeartbeats 1000000 in
theorem c_Ru_hasUnknownOp {Γ : pmE} {G : pmG} {n : Nat} {Q : pmPost} {a : Nat} {D : Dfn} (h : isDef G a D) (hQ : Q (some (.int (pB (pUnk D)))) n G) : pV Γ m_Ru_hasUnknownOp 0 [some (.ref a), none, none, none] [] n G 0 0 Q := by
  obtain ⟨⟨hni, hnf, hnm, hln⟩, h1, ⟨f1, h2, h2'⟩, ⟨f2, h3, h3'⟩, ⟨f3, h4, h4'⟩, ⟨f4, h5, h5'⟩, h6, h7⟩ := h
  have loop : ∀ (d m : Nat), m ≤ dNm D → dNm D - m < d → ∀ w1 w2 : Option Value, (∀ k, k < m → ∀ i, i < dL D k → dC D k (i * 3) = 0 ∨ dC D k (i * 3) = nI 1) → pV Γ m_Ru_hasUnknownOp 2 [some (.ref a), some (.int (nI m)), w1, w2] [] n G 0 0 Q := by
    intro d
    induction d with
    | zero => intro m _ hd; exact absurd hd (by omega)
    | succ d ih =>
      intro m hi hd w1 w2 hv
      refine V_iload_n d_Ru_hasUnknownOp_2 rfl ?_
      refine V_aload_n d_Ru_hasUnknownOp_3 rfl ?_
      refine V_getf d_Ru_hasUnknownOp_4 f_Ru_61 h1 rfl ?_
      refine V_icmp_geN (tgt := 61) d_Ru_hasUnknownOp_7 (by decide) (by omega) (by omega) (fun hb7 => ?_) (fun hb7 => ?_)
      · refine V_iconst (v := nI 0) d_Ru_hasUnknownOp_61 (by decide +kernel) ?_
        exact V_zreturn d_Ru_hasUnknownOp_62 rfl (by first | exact pB_or _ | exact Or.inl rfl | exact Or.inr rfl) (pQ_f hQ (fun ⟨k, hk, j, hj, e1, e2⟩ => (hv k (by omega) j hj).elim e1 e2))
      · refine V_aload_n d_Ru_hasUnknownOp_10 rfl ?_
        refine V_getf d_Ru_hasUnknownOp_11 f_Ru_65 h1 rfl ?_
        refine V_iload_n d_Ru_hasUnknownOp_14 rfl ?_
        refine V_aaload (j := m) d_Ru_hasUnknownOp_15 rfl h5 rfl (by omega) (by omega) ?_
        rw [h5' m (by omega)]
        show pV Γ _ _ _ (.ref (a + 5 + 3 * m) :: _) _ _ _ _ _
        have hc := (h7 m (by omega)).2
        have hl6 := hln m (by omega)
        refine V_getf d_Ru_hasUnknownOp_16 f_Ru_69 (h7 m (by omega)).1 rfl ?_
        refine V_astore_n d_Ru_hasUnknownOp_19 (Nat.le_of_ble_eq_true rfl) ?_
        show pV Γ _ _ [some (.ref a), some (.int (nI m)), some (.ref (a + 5 + 3 * m + 1)), w2] _ _ _ _ _ _
        refine V_iconst (v := nI 0) d_Ru_hasUnknownOp_20 (by decide +kernel) ?_
        refine V_istore_n d_Ru_hasUnknownOp_21 (Nat.le_of_ble_eq_true rfl) ?_
        show pV Γ _ _ [some (.ref a), some (.int (nI m)), some (.ref (a + 5 + 3 * m + 1)), some (.int (nI 0))] _ _ _ _ _ _
        have inner : ∀ (d2 i : Nat), i ≤ dL D m → dL D m - i < d2 → (∀ k, k < i → dC D m (k * 3) = 0 ∨ dC D m (k * 3) = nI 1) → pV Γ m_Ru_hasUnknownOp 22 [some (.ref a), some (.int (nI m)), some (.ref (a + 5 + 3 * m + 1)), some (.int (nI i))] [] n G 0 0 Q := by
          intro d2
          induction d2 with
          | zero => intro i _ hd2; exact absurd hd2 (by omega)
          | succ d2 ih2 =>
            intro i hj hd2 hw
            refine V_iload_n d_Ru_hasUnknownOp_22 rfl ?_
            refine V_aload_n d_Ru_hasUnknownOp_23 rfl ?_
            refine V_getf d_Ru_hasUnknownOp_24 f_Ru_75 hc.2.1 rfl ?_
            refine V_icmp_geN (tgt := 55) d_Ru_hasUnknownOp_27 (by decide) (by omega) (by omega) (fun hb27 => ?_) (fun hb27 => ?_)
            · refine V_iincN d_Ru_hasUnknownOp_55 rfl ?_
              show pV Γ _ _ [some (.ref a), some (.int (nI (m + 1))), some (.ref (a + 5 + 3 * m + 1)), some (.int (nI i))] _ _ _ _ _ _
              refine V_goto (tgt := 2) d_Ru_hasUnknownOp_58 (by decide) ?_
              exact ih (m + 1) (by omega) (by omega) _ _ (fun k hk j hj => by
                rcases Nat.lt_or_ge k m with q | q
                · exact hv k q j hj
                · have e : k = m := by omega
                  subst e; exact hw j (by omega))
            · refine V_aload_n d_Ru_hasUnknownOp_30 rfl ?_
              refine V_iload_n d_Ru_hasUnknownOp_31 rfl ?_
              refine V_callV (As := [.int (nI i)]) (rest := []) (lo' := [some (.ref (a + 5 + 3 * m + 1)), some (.int (nI i))]) (bc1 := 0) (bs1 := 0) (bc' := 0) (bs' := 0) d_Ru_hasUnknownOp_32 k_Ru_hasUnknownOp_80 hc.2.1 rfl rfl rfl rfl (by rfl) (by rfl) ?_
              refine c_Cd_opAt hc (by omega) ?_
              show pV Γ m_Ru_hasUnknownOp 35 [some (.ref a), some (.int (nI m)), some (.ref (a + 5 + 3 * m + 1)), some (.int (nI i))] [.int ((dC D m (i * 3)))] _ G 0 0 Q
              refine V_if_eq (tgt := 49) d_Ru_hasUnknownOp_35 (by decide) (fun hb35 => ?_) (fun hb35 => ?_)
              · refine V_iincN d_Ru_hasUnknownOp_49 rfl ?_
                show pV Γ _ _ [some (.ref a), some (.int (nI m)), some (.ref (a + 5 + 3 * m + 1)), some (.int (nI (i + 1)))] _ _ _ _ _ _
                refine V_goto (tgt := 22) d_Ru_hasUnknownOp_52 (by decide) ?_
                exact ih2 (i + 1) (by omega) (by omega) (fun k hk => by
                  rcases Nat.lt_or_ge k i with q | q
                  · exact hw k q
                  · rw [show k = i by omega]; first | exact Or.inl hb35 | exact Or.inr hb44)
              · refine V_aload_n d_Ru_hasUnknownOp_38 rfl ?_
                refine V_iload_n d_Ru_hasUnknownOp_39 rfl ?_
                refine V_callV (As := [.int (nI i)]) (rest := []) (lo' := [some (.ref (a + 5 + 3 * m + 1)), some (.int (nI i))]) (bc1 := 0) (bs1 := 0) (bc' := 0) (bs' := 0) d_Ru_hasUnknownOp_40 k_Ru_hasUnknownOp_80 hc.2.1 rfl rfl rfl rfl (by rfl) (by rfl) ?_
                refine c_Cd_opAt hc (by omega) ?_
                show pV Γ m_Ru_hasUnknownOp 43 [some (.ref a), some (.int (nI m)), some (.ref (a + 5 + 3 * m + 1)), some (.int (nI i))] [.int ((dC D m (i * 3)))] _ G 0 0 Q
                refine V_iconst (v := nI 1) d_Ru_hasUnknownOp_43 (by decide +kernel) ?_
                refine V_icmp_eq (tgt := 49) d_Ru_hasUnknownOp_44 (by decide) (fun hb44 => ?_) (fun hb44 => ?_)
                · refine V_iincN d_Ru_hasUnknownOp_49 rfl ?_
                  show pV Γ _ _ [some (.ref a), some (.int (nI m)), some (.ref (a + 5 + 3 * m + 1)), some (.int (nI (i + 1)))] _ _ _ _ _ _
                  refine V_goto (tgt := 22) d_Ru_hasUnknownOp_52 (by decide) ?_
                  exact ih2 (i + 1) (by omega) (by omega) (fun k hk => by
                    rcases Nat.lt_or_ge k i with q | q
                    · exact hw k q
                    · rw [show k = i by omega]; first | exact Or.inl hb35 | exact Or.inr hb44)
                · refine V_iconst (v := nI 1) d_Ru_hasUnknownOp_47 (by decide +kernel) ?_
                  exact V_zreturn d_Ru_hasUnknownOp_48 rfl (by first | exact pB_or _ | exact Or.inl rfl | exact Or.inr rfl) (pQ_t hQ ⟨m, by omega, i, by omega, hb35, hb44⟩)
        exact inner (dL D m + 1) 0 (by omega) (by omega) (fun k hk => absurd hk (by omega))
  refine V_iconst (v := nI 0) d_Ru_hasUnknownOp_0 (by decide +kernel) ?_
  refine V_istore_n d_Ru_hasUnknownOp_1 (Nat.le_of_ble_eq_true rfl) ?_
  show pV Γ _ _ [some (.ref a), some (.int (nI 0)), none, none] _ _ _ _ _ _
  exact loop (dNm D + 1) 0 (by omega) (by omega) _ _ (fun k hk => absurd hk (by omega))
set_option maxHeartbeats 1000000 in
theorem c_Ru_meetsItselfAbove {Γ : pmE} {G : pmG} {n : Nat} {Q : pmPost} {a s0 lo hi : Nat} {D : Dfn} {f : Nat → Option Nat} {ld : LdS} (h : isDef G a D) (s : isSh G s0 f ld lo hi) (hQ : Q (some (.int (pB (pMeet ld (dP D 1) 7 (dP D 2))))) n G) : pV Γ m_Ru_meetsItselfAbove 0 [some (.ref a), some (.ref s0), none, none, none] [] n G 0 0 Q := by
  obtain ⟨⟨hni, hnf, hnm, hln⟩, h1, ⟨f1, h2, h2'⟩, ⟨f2, h3, h3'⟩, ⟨f3, h4, h4'⟩, ⟨f4, h5, h5'⟩, h6, h7⟩ := h
  have loop : ∀ (d i : Nat), i ≤ 7 → 7 - i < d → ∀ (x : Int32) (w : Option Value), (pMeet ld (dP D 1) 7 (dP D 2) ↔ pMeet ld (dP D 1) (7 - i) x) → pV Γ m_Ru_meetsItselfAbove 9 [some (.ref a), some (.ref s0), some (.int x), some (.int (nI i)), w] [] n G 0 0 Q := by
    intro d
    induction d with
    | zero => intro i _ hd; exact absurd hd (by omega)
    | succ d ih =>
      intro i hi hd x w hv
      refine V_iload_n d_Ru_meetsItselfAbove_9 rfl ?_
      refine V_bipush (v := nI 6) d_Ru_meetsItselfAbove_10 (by decide +kernel) ?_
      refine V_icmp_gtN (tgt := 58) d_Ru_meetsItselfAbove_12 (by decide) (by omega) (by omega) (fun hb12 => ?_) (fun hb12 => ?_)
      · refine V_iconst (v := nI 0) d_Ru_meetsItselfAbove_58 (by decide +kernel) ?_
        exact V_zreturn d_Ru_meetsItselfAbove_59 rfl (by first | exact pB_or _ | exact Or.inl rfl | exact Or.inr rfl) (pQ_f hQ (fun e => by
  have e := hv.mp e
  rw [show 7 - i = 0 by omega] at e
  exact e))
      · refine V_iload_n d_Ru_meetsItselfAbove_15 rfl ?_
        refine V_aload_n d_Ru_meetsItselfAbove_16 rfl ?_
        refine V_getf d_Ru_meetsItselfAbove_17 f_Ru_19 h1 rfl ?_
        refine V_iconst (v := nI 1) d_Ru_meetsItselfAbove_20 (by decide +kernel) ?_
        refine V_iaload (j := 1) d_Ru_meetsItselfAbove_21 rfl h2 rfl (by omega) (by omega) ?_
        rw [h2' 1 (by omega)]
        refine V_icmp_ne (tgt := 27) d_Ru_meetsItselfAbove_22 (by decide) (fun hb22 => ?_) (fun hb22 => ?_)
        · refine V_aload_n d_Ru_meetsItselfAbove_27 rfl ?_
          refine V_iload_n d_Ru_meetsItselfAbove_28 rfl ?_
          refine V_callV (As := [.int x]) (rest := []) (lo' := [some (.ref s0), some (.int x)]) (bc1 := 0) (bs1 := 0) (bc' := 0) (bs' := 0) d_Ru_meetsItselfAbove_29 k_Ru_meetsItselfAbove_84 s.1 rfl rfl rfl rfl (by rfl) (by rfl) ?_
          refine c_Sh_find s (fun hn => ?_) (fun c L b hc hx hl hf hlo hhi hL => ?_)
          · show pV Γ m_Ru_meetsItselfAbove 32 [some (.ref a), some (.ref s0), some (.int x), some (.int (nI i)), w] [.null] _ G 0 0 Q
            refine V_astoreN d_Ru_meetsItselfAbove_32 (Nat.le_of_ble_eq_true rfl) ?_
            show pV Γ _ _ [some (.ref a), some (.ref s0), some (.int x), some (.int (nI i)), some (.null)] _ _ _ _ _ _
            refine V_aloadN d_Ru_meetsItselfAbove_34 rfl ?_
            refine V_ifnonnullN d_Ru_meetsItselfAbove_36 ?_
            refine V_iconst (v := nI 0) d_Ru_meetsItselfAbove_39 (by decide +kernel) ?_
            exact V_zreturn d_Ru_meetsItselfAbove_40 rfl (by first | exact pB_or _ | exact Or.inl rfl | exact Or.inr rfl) (pQ_f hQ (fun e => by
  have e := hv.mp e
  rw [show 7 - i = (6 - i) + 1 by omega] at e
  rcases e with e | ⟨c', L', hc', hx', hl', e⟩
  · exact hb22 e
  · exact hn ⟨c', hc', hx', L', hl'⟩))
          · obtain ⟨l1, l2, l3⟩ := hL
            have l2' := l2
            obtain ⟨⟨-, -, -, -⟩, k1, ⟨p1, k2, k2'⟩, -⟩ := l2'
            show pV Γ m_Ru_meetsItselfAbove 32 [some (.ref a), some (.ref s0), some (.int x), some (.int (nI i)), w] [.ref b] _ G 0 0 Q
            refine V_astore d_Ru_meetsItselfAbove_32 (Nat.le_of_ble_eq_true rfl) ?_
            show pV Γ _ _ [some (.ref a), some (.ref s0), some (.int x), some (.int (nI i)), some (.ref b)] _ _ _ _ _ _
            refine V_aload d_Ru_meetsItselfAbove_34 rfl ?_
            refine V_ifnonnull (tgt := 41) d_Ru_meetsItselfAbove_36 (by decide) ?_
            refine V_aload d_Ru_meetsItselfAbove_41 rfl ?_
            refine V_getf d_Ru_meetsItselfAbove_43 f_Ru_90 l1 rfl ?_
            refine V_getf d_Ru_meetsItselfAbove_46 f_Ru_19 k1 rfl ?_
            refine V_iconst (v := nI 2) d_Ru_meetsItselfAbove_49 (by decide +kernel) ?_
            refine V_iaload (j := 2) d_Ru_meetsItselfAbove_50 rfl k2 rfl (by omega) (by omega) ?_
            rw [k2' 2 (by omega)]
            refine V_istore_n d_Ru_meetsItselfAbove_51 (Nat.le_of_ble_eq_true rfl) ?_
            show pV Γ _ _ [some (.ref a), some (.ref s0), some (.int (dP L.2.1 2)), some (.int (nI i)), some (.ref b)] _ _ _ _ _ _
            refine V_iincN d_Ru_meetsItselfAbove_52 rfl ?_
            show pV Γ _ _ [some (.ref a), some (.ref s0), some (.int (dP L.2.1 2)), some (.int (nI (i + 1))), some (.ref b)] _ _ _ _ _ _
            refine V_goto (tgt := 9) d_Ru_meetsItselfAbove_55 (by decide) ?_
            exact ih (i + 1) (by omega) (by omega) _ _ (by
              rw [show 7 - i = (7 - (i + 1)) + 1 by omega] at hv
              rw [hv]
              constructor
              · rintro (e | ⟨c', L', hc', hx', hl', e⟩)
                · exact absurd e hb22
                · have e2 : c = c' := (nI_eq (by omega) (by omega)).mp (hx.symm.trans hx')
                  subst e2
                  rw [hl] at hl'; cases hl'; exact e
              · intro e; exact Or.inr ⟨c, L, hc, hx, hl, e⟩)
        · refine V_iconst (v := nI 1) d_Ru_meetsItselfAbove_25 (by decide +kernel) ?_
          exact V_zreturn d_Ru_meetsItselfAbove_26 rfl (by first | exact pB_or _ | exact Or.inl rfl | exact Or.inr rfl) (pQ_t hQ (hv.mpr (by rw [show 7 - i = (6 - i) + 1 by omega]; exact Or.inl hb22)))
  refine V_aload_n d_Ru_meetsItselfAbove_0 rfl ?_
  refine V_getf d_Ru_meetsItselfAbove_1 f_Ru_19 h1 rfl ?_
  refine V_iconst (v := nI 2) d_Ru_meetsItselfAbove_4 (by decide +kernel) ?_
  refine V_iaload (j := 2) d_Ru_meetsItselfAbove_5 rfl h2 rfl (by omega) (by omega) ?_
  rw [h2' 2 (by omega)]
  refine V_istore_n d_Ru_meetsItselfAbove_6 (Nat.le_of_ble_eq_true rfl) ?_
  show pV Γ _ _ [some (.ref a), some (.ref s0), some (.int (dP D 2)), none, none] _ _ _ _ _ _
  refine V_iconst (v := nI 0) d_Ru_meetsItselfAbove_7 (by decide +kernel) ?_
  refine V_istore_n d_Ru_meetsItselfAbove_8 (Nat.le_of_ble_eq_true rfl) ?_
  show pV Γ _ _ [some (.ref a), some (.ref s0), some (.int (dP D 2)), some (.int (nI 0)), none] _ _ _ _ _ _
  exact loop 8 0 (by omega) (by omega) _ _ Iff.rfl
set_option maxHeartbeats 1000000 in
theorem c_Ru_lacksSuper {Γ : pmE} {G : pmG} {n : Nat} {Q : pmPost} {a s0 lo hi : Nat} {D : Dfn} {f : Nat → Option Nat} {ld : LdS} (h : isDef G a D) (s : isSh G s0 f ld lo hi) (hQ : Q (some (.int (pB (pNoSup ld D)))) n G) : pV Γ m_Ru_lacksSuper 0 [some (.ref a), some (.ref s0)] [] n G 0 0 Q := by
  obtain ⟨⟨hni, hnf, hnm, hln⟩, h1, ⟨f1, h2, h2'⟩, ⟨f2, h3, h3'⟩, ⟨f3, h4, h4'⟩, ⟨f4, h5, h5'⟩, h6, h7⟩ := h
  refine V_aload_n d_Ru_lacksSuper_0 rfl ?_
  refine V_getf d_Ru_lacksSuper_1 f_Ru_19 h1 rfl ?_
  refine V_iconst (v := nI 2) d_Ru_lacksSuper_4 (by decide +kernel) ?_
  refine V_iaload (j := 2) d_Ru_lacksSuper_5 rfl h2 rfl (by omega) (by omega) ?_
  rw [h2' 2 (by omega)]
  refine V_iconst (v := (-1)) d_Ru_lacksSuper_6 (by decide +kernel) ?_
  refine V_icmp_eq (tgt := 27) d_Ru_lacksSuper_7 (by decide) (fun hb7 => ?_) (fun hb7 => ?_)
  · refine V_iconst (v := nI 0) d_Ru_lacksSuper_27 (by decide +kernel) ?_
    exact V_zreturn d_Ru_lacksSuper_28 rfl (by first | exact pB_or _ | exact Or.inl rfl | exact Or.inr rfl) (pQ_f hQ (fun e => e.1 hb7))
  · refine V_aload_n d_Ru_lacksSuper_10 rfl ?_
    refine V_aload_n d_Ru_lacksSuper_11 rfl ?_
    refine V_getf d_Ru_lacksSuper_12 f_Ru_19 h1 rfl ?_
    refine V_iconst (v := nI 2) d_Ru_lacksSuper_15 (by decide +kernel) ?_
    refine V_iaload (j := 2) d_Ru_lacksSuper_16 rfl h2 rfl (by omega) (by omega) ?_
    rw [h2' 2 (by omega)]
    refine V_callV (As := [.int (dP D 2)]) (rest := []) (lo' := [some (.ref s0), some (.int (dP D 2))]) (bc1 := 0) (bs1 := 0) (bc' := 0) (bs' := 0) d_Ru_lacksSuper_17 k_Ru_lacksSuper_84 s.1 rfl rfl rfl rfl (by rfl) (by rfl) ?_
    refine c_Sh_find s (fun hn => ?_) (fun c L b hc hx hl hf hlo hhi hL => ?_)
    · show pV Γ m_Ru_lacksSuper 20 [some (.ref a), some (.ref s0)] [.null] _ G 0 0 Q
      refine V_ifnonnullN d_Ru_lacksSuper_20 ?_
      refine V_iconst (v := nI 1) d_Ru_lacksSuper_23 (by decide +kernel) ?_
      refine V_goto (tgt := 28) d_Ru_lacksSuper_24 (by decide) ?_
      exact V_zreturn d_Ru_lacksSuper_28 rfl (by first | exact pB_or _ | exact Or.inl rfl | exact Or.inr rfl) (pQ_t hQ ⟨hb7, hn⟩)
    · show pV Γ m_Ru_lacksSuper 20 [some (.ref a), some (.ref s0)] [.ref b] _ G 0 0 Q
      refine V_ifnonnull (tgt := 27) d_Ru_lacksSuper_20 (by decide) ?_
      refine V_iconst (v := nI 0) d_Ru_lacksSuper_27 (by decide +kernel) ?_
      exact V_zreturn d_Ru_lacksSuper_28 rfl (by first | exact pB_or _ | exact Or.inl rfl | exact Or.inr rfl) (pQ_f hQ (fun e => e.2 ⟨c, hc, hx, L, hl⟩))
set_option maxHeartbeats 1000000 in
theorem c_Ru_isCallable {Γ : pmE} {G : pmG} {n : Nat} {Q : pmPost} {a s0 lo hi : Nat} {D : Dfn} {x y : Int32} {f : Nat → Option Nat} {ld : LdS} (h : isDef G a D) (s : isSh G s0 f ld lo hi) (hQ : Q (some (.int (pB (pCal ld D x y)))) n G) : pV Γ m_Ru_isCallable 0 [some (.ref a), some (.int x), some (.int y), some (.ref s0), none] [] n G 0 0 Q := by
  have hD := h
  obtain ⟨⟨hni, hnf, hnm, hln⟩, h1, ⟨f1, h2, h2'⟩, ⟨f2, h3, h3'⟩, ⟨f3, h4, h4'⟩, ⟨f4, h5, h5'⟩, h6, h7⟩ := h
  refine V_iload_n d_Ru_isCallable_0 rfl ?_
  refine V_aload_n d_Ru_isCallable_1 rfl ?_
  refine V_getf d_Ru_isCallable_2 f_Ru_19 h1 rfl ?_
  refine V_iconst (v := nI 1) d_Ru_isCallable_5 (by decide +kernel) ?_
  refine V_iaload (j := 1) d_Ru_isCallable_6 rfl h2 rfl (by omega) (by omega) ?_
  rw [h2' 1 (by omega)]
  refine V_icmp_ne (tgt := 24) d_Ru_isCallable_7 (by decide) (fun hb7 => ?_) (fun hb7 => ?_)
  · refine V_aload_n d_Ru_isCallable_24 rfl ?_
    refine V_iload_n d_Ru_isCallable_25 rfl ?_
    refine V_callV (As := [.int x]) (rest := []) (lo' := [some (.ref s0), some (.int x)]) (bc1 := 0) (bs1 := 0) (bc' := 0) (bs' := 0) d_Ru_isCallable_26 k_Ru_isCallable_84 s.1 rfl rfl rfl rfl (by rfl) (by rfl) ?_
    refine c_Sh_find s (fun hn => ?_) (fun c L b hc hx hl hf hlo hhi hL => ?_)
    · show pV Γ m_Ru_isCallable 29 [some (.ref a), some (.int x), some (.int y), some (.ref s0), none] [.null] _ G 0 0 Q
      refine V_astoreN d_Ru_isCallable_29 (Nat.le_of_ble_eq_true rfl) ?_
      show pV Γ _ _ [some (.ref a), some (.int x), some (.int y), some (.ref s0), some (.null)] _ _ _ _ _ _
      refine V_aloadN d_Ru_isCallable_31 rfl ?_
      refine V_ifnullN (tgt := 52) d_Ru_isCallable_33 (by decide) ?_
      refine V_iconst (v := nI 0) d_Ru_isCallable_52 (by decide +kernel) ?_
      exact V_zreturn d_Ru_isCallable_53 rfl (by first | exact pB_or _ | exact Or.inl rfl | exact Or.inr rfl) (pQ_f hQ (fun e => e.elim (fun e => hb7 e.1) (fun ⟨_, c, L, hc, hx, hl, _⟩ => hn ⟨c, hc, hx, L, hl⟩)))
    · obtain ⟨l1, l2, l3⟩ := hL
      show pV Γ m_Ru_isCallable 29 [some (.ref a), some (.int x), some (.int y), some (.ref s0), none] [.ref b] _ G 0 0 Q
      refine V_astore d_Ru_isCallable_29 (Nat.le_of_ble_eq_true rfl) ?_
      show pV Γ _ _ [some (.ref a), some (.int x), some (.int y), some (.ref s0), some (.ref b)] _ _ _ _ _ _
      refine V_aload d_Ru_isCallable_31 rfl ?_
      refine V_ifnull d_Ru_isCallable_33 ?_
      refine V_aload d_Ru_isCallable_36 rfl ?_
      refine V_getf d_Ru_isCallable_38 f_Ru_90 l1 rfl ?_
      refine V_iload_n d_Ru_isCallable_41 rfl ?_
      refine V_callV (As := [.int y]) (rest := []) (lo' := [some (.ref (b + 1)), some (.int y), none]) (bc1 := 0) (bs1 := 0) (bc' := 0) (bs' := 0) d_Ru_isCallable_42 k_Ru_isCallable_106 l2.2.1 rfl rfl rfl rfl (by rfl) (by rfl) ?_
      refine c_Df_findMethod l2 (fun hn => ?_) (fun k hk he hfk => ?_)
      · show pV Γ m_Ru_isCallable 45 [some (.ref a), some (.int x), some (.int y), some (.ref s0), some (.ref b)] [.null] _ G 0 0 Q
        refine V_ifnullN (tgt := 52) d_Ru_isCallable_45 (by decide) ?_
        refine V_iconst (v := nI 0) d_Ru_isCallable_52 (by decide +kernel) ?_
        exact V_zreturn d_Ru_isCallable_53 rfl (by first | exact pB_or _ | exact Or.inl rfl | exact Or.inr rfl) (pQ_f hQ (fun e => e.elim (fun e => hb7 e.1) (fun ⟨_, c', L', hc', hx', hl', j, hj, ej⟩ => by
  have e2 : c = c' := (nI_eq (by omega) (by omega)).mp (hx.symm.trans hx')
  subst e2
  rw [hl] at hl'; cases hl'; exact hn j hj ej)))
      · show pV Γ m_Ru_isCallable 45 [some (.ref a), some (.int x), some (.int y), some (.ref s0), some (.ref b)] [.ref (b + 1 + 5 + 3 * k)] _ G 0 0 Q
        refine V_ifnull d_Ru_isCallable_45 ?_
        refine V_iconst (v := nI 1) d_Ru_isCallable_48 (by decide +kernel) ?_
        refine V_goto (tgt := 53) d_Ru_isCallable_49 (by decide) ?_
        exact V_zreturn d_Ru_isCallable_53 rfl (by first | exact pB_or _ | exact Or.inl rfl | exact Or.inr rfl) (pQ_t hQ (Or.inr ⟨hb7, c, L, hc, hx, hl, k, hk, he⟩))
  · refine V_aload_n d_Ru_isCallable_10 rfl ?_
    refine V_iload_n d_Ru_isCallable_11 rfl ?_
    refine V_callV (As := [.int y]) (rest := []) (lo' := [some (.ref a), some (.int y), none]) (bc1 := 0) (bs1 := 0) (bc' := 0) (bs' := 0) d_Ru_isCallable_12 k_Ru_isCallable_106 h1 rfl rfl rfl rfl (by rfl) (by rfl) ?_
    refine c_Df_findMethod hD (fun hn => ?_) (fun k hk he hf => ?_)
    · show pV Γ m_Ru_isCallable 15 [some (.ref a), some (.int x), some (.int y), some (.ref s0), none] [.null] _ G 0 0 Q
      refine V_ifnullN (tgt := 22) d_Ru_isCallable_15 (by decide) ?_
      refine V_iconst (v := nI 0) d_Ru_isCallable_22 (by decide +kernel) ?_
      exact V_zreturn d_Ru_isCallable_23 rfl (by first | exact pB_or _ | exact Or.inl rfl | exact Or.inr rfl) (pQ_f hQ (fun e => e.elim (fun ⟨_, j, hj, ej⟩ => hn j hj ej) (fun e => e.1 hb7)))
    · show pV Γ m_Ru_isCallable 15 [some (.ref a), some (.int x), some (.int y), some (.ref s0), none] [.ref (a + 5 + 3 * k)] _ G 0 0 Q
      refine V_ifnull d_Ru_isCallable_15 ?_
      refine V_iconst (v := nI 1) d_Ru_isCallable_18 (by decide +kernel) ?_
      refine V_goto (tgt := 23) d_Ru_isCallable_19 (by decide) ?_
      exact V_zreturn d_Ru_isCallable_23 rfl (by first | exact pB_or _ | exact Or.inl rfl | exact Or.inr rfl) (pQ_t hQ (Or.inl ⟨hb7, k, hk, he⟩))
set_option maxHeartbeats 1000000 in
theorem c_Ru_lacksCalledMethod {Γ : pmE} {G : pmG} {n : Nat} {Q : pmPost} {a s0 lo hi : Nat} {D : Dfn} {f : Nat → Option Nat} {ld : LdS} (h : isDef G a D) (s : isSh G s0 f ld lo hi) (hQ : Q (some (.int (pB (pLack ld D)))) n G) : pV Γ m_Ru_lacksCalledMethod 0 [some (.ref a), some (.ref s0), none, none, none] [] n G 0 0 Q := by
  have hD := h
  obtain ⟨⟨hni, hnf, hnm, hln⟩, h1, ⟨f1, h2, h2'⟩, ⟨f2, h3, h3'⟩, ⟨f3, h4, h4'⟩, ⟨f4, h5, h5'⟩, h6, h7⟩ := h
  have loop : ∀ (d m : Nat), m ≤ dNm D → dNm D - m < d → ∀ w1 w2 : Option Value, (∀ k, k < m → ∀ i, i < dL D k → dC D k (i * 3) = nI 1 → pCal ld D (dC D k (i * 3 + 1)) (dC D k (i * 3 + 2))) → pV Γ m_Ru_lacksCalledMethod 2 [some (.ref a), some (.ref s0), some (.int (nI m)), w1, w2] [] n G 0 0 Q := by
    intro d
    induction d with
    | zero => intro m _ hd; exact absurd hd (by omega)
    | succ d ih =>
      intro m hi hd w1 w2 hv
      refine V_iload_n d_Ru_lacksCalledMethod_2 rfl ?_
      refine V_aload_n d_Ru_lacksCalledMethod_3 rfl ?_
      refine V_getf d_Ru_lacksCalledMethod_4 f_Ru_61 h1 rfl ?_
      refine V_icmp_geN (tgt := 76) d_Ru_lacksCalledMethod_7 (by decide) (by omega) (by omega) (fun hb7 => ?_) (fun hb7 => ?_)
      · refine V_iconst (v := nI 0) d_Ru_lacksCalledMethod_76 (by decide +kernel) ?_
        exact V_zreturn d_Ru_lacksCalledMethod_77 rfl (by first | exact pB_or _ | exact Or.inl rfl | exact Or.inr rfl) (pQ_f hQ (fun ⟨k, hk, j, hj, e1, e2⟩ => e2 (hv k (by omega) j hj e1)))
      · refine V_aload_n d_Ru_lacksCalledMethod_10 rfl ?_
        refine V_getf d_Ru_lacksCalledMethod_11 f_Ru_65 h1 rfl ?_
        refine V_iload_n d_Ru_lacksCalledMethod_14 rfl ?_
        refine V_aaload (j := m) d_Ru_lacksCalledMethod_15 rfl h5 rfl (by omega) (by omega) ?_
        rw [h5' m (by omega)]
        show pV Γ _ _ _ (.ref (a + 5 + 3 * m) :: _) _ _ _ _ _
        have hc := (h7 m (by omega)).2
        have hl6 := hln m (by omega)
        refine V_getf d_Ru_lacksCalledMethod_16 f_Ru_69 (h7 m (by omega)).1 rfl ?_
        refine V_astore_n d_Ru_lacksCalledMethod_19 (Nat.le_of_ble_eq_true rfl) ?_
        show pV Γ _ _ [some (.ref a), some (.ref s0), some (.int (nI m)), some (.ref (a + 5 + 3 * m + 1)), w2] _ _ _ _ _ _
        refine V_iconst (v := nI 0) d_Ru_lacksCalledMethod_20 (by decide +kernel) ?_
        refine V_istore d_Ru_lacksCalledMethod_21 (Nat.le_of_ble_eq_true rfl) ?_
        show pV Γ _ _ [some (.ref a), some (.ref s0), some (.int (nI m)), some (.ref (a + 5 + 3 * m + 1)), some (.int (nI 0))] _ _ _ _ _ _
        have inner : ∀ (d2 i : Nat), i ≤ dL D m → dL D m - i < d2 → (∀ k, k < i → dC D m (k * 3) = nI 1 → pCal ld D (dC D m (k * 3 + 1)) (dC D m (k * 3 + 2))) → pV Γ m_Ru_lacksCalledMethod 23 [some (.ref a), some (.ref s0), some (.int (nI m)), some (.ref (a + 5 + 3 * m + 1)), some (.int (nI i))] [] n G 0 0 Q := by
          intro d2
          induction d2 with
          | zero => intro i _ hd2; exact absurd hd2 (by omega)
          | succ d2 ih2 =>
            intro i hj hd2 hw
            refine V_iload d_Ru_lacksCalledMethod_23 rfl ?_
            refine V_aload_n d_Ru_lacksCalledMethod_25 rfl ?_
            refine V_getf d_Ru_lacksCalledMethod_26 f_Ru_75 hc.2.1 rfl ?_
            refine V_icmp_geN (tgt := 70) d_Ru_lacksCalledMethod_29 (by decide) (by omega) (by omega) (fun hb29 => ?_) (fun hb29 => ?_)
            · refine V_iincN d_Ru_lacksCalledMethod_70 rfl ?_
              show pV Γ _ _ [some (.ref a), some (.ref s0), some (.int (nI (m + 1))), some (.ref (a + 5 + 3 * m + 1)), some (.int (nI i))] _ _ _ _ _ _
              refine V_goto (tgt := 2) d_Ru_lacksCalledMethod_73 (by decide) ?_
              exact ih (m + 1) (by omega) (by omega) _ _ (fun k hk j hj => by
                rcases Nat.lt_or_ge k m with q | q
                · exact hv k q j hj
                · have e : k = m := by omega
                  subst e; exact hw j (by omega))
            · refine V_aload_n d_Ru_lacksCalledMethod_32 rfl ?_
              refine V_iload d_Ru_lacksCalledMethod_33 rfl ?_
              refine V_callV (As := [.int (nI i)]) (rest := []) (lo' := [some (.ref (a + 5 + 3 * m + 1)), some (.int (nI i))]) (bc1 := 0) (bs1 := 0) (bc' := 0) (bs' := 0) d_Ru_lacksCalledMethod_35 k_Ru_lacksCalledMethod_80 hc.2.1 rfl rfl rfl rfl (by rfl) (by rfl) ?_
              refine c_Cd_opAt hc (by omega) ?_
              show pV Γ m_Ru_lacksCalledMethod 38 [some (.ref a), some (.ref s0), some (.int (nI m)), some (.ref (a + 5 + 3 * m + 1)), some (.int (nI i))] [.int ((dC D m (i * 3)))] _ G 0 0 Q
              refine V_iconst (v := nI 1) d_Ru_lacksCalledMethod_38 (by decide +kernel) ?_
              refine V_icmp_ne (tgt := 64) d_Ru_lacksCalledMethod_39 (by decide) (fun hb39 => ?_) (fun hb39 => ?_)
              · refine V_iincN d_Ru_lacksCalledMethod_64 rfl ?_
                show pV Γ _ _ [some (.ref a), some (.ref s0), some (.int (nI m)), some (.ref (a + 5 + 3 * m + 1)), some (.int (nI (i + 1)))] _ _ _ _ _ _
                refine V_goto (tgt := 23) d_Ru_lacksCalledMethod_67 (by decide) ?_
                exact ih2 (i + 1) (by omega) (by omega) (fun k hk ek => by
                  rcases Nat.lt_or_ge k i with q | q
                  · exact hw k q ek
                  · have e : k = i := by omega
                    subst e
                    first | exact absurd ek hb39 | exact hb59)
              · refine V_aload_n d_Ru_lacksCalledMethod_42 rfl ?_
                refine V_aload_n d_Ru_lacksCalledMethod_43 rfl ?_
                refine V_iload d_Ru_lacksCalledMethod_44 rfl ?_
                refine V_callV (As := [.int (nI i)]) (rest := [.ref a]) (lo' := [some (.ref (a + 5 + 3 * m + 1)), some (.int (nI i))]) (bc1 := 0) (bs1 := 0) (bc' := 0) (bs' := 0) d_Ru_lacksCalledMethod_46 k_Ru_lacksCalledMethod_96 hc.2.1 rfl rfl rfl rfl (by rfl) (by rfl) ?_
                refine c_Cd_firstOperandAt hc (by omega) ?_
                show pV Γ m_Ru_lacksCalledMethod 49 [some (.ref a), some (.ref s0), some (.int (nI m)), some (.ref (a + 5 + 3 * m + 1)), some (.int (nI i))] [.int ((dC D m (i * 3 + 1))), .ref a] _ G 0 0 Q
                refine V_aload_n d_Ru_lacksCalledMethod_49 rfl ?_
                refine V_iload d_Ru_lacksCalledMethod_50 rfl ?_
                refine V_callV (As := [.int (nI i)]) (rest := [.int ((dC D m (i * 3 + 1))), .ref a]) (lo' := [some (.ref (a + 5 + 3 * m + 1)), some (.int (nI i))]) (bc1 := 0) (bs1 := 0) (bc' := 0) (bs' := 0) d_Ru_lacksCalledMethod_52 k_Ru_lacksCalledMethod_99 hc.2.1 rfl rfl rfl rfl (by rfl) (by rfl) ?_
                refine c_Cd_secondOperandAt hc (by omega) ?_
                show pV Γ m_Ru_lacksCalledMethod 55 [some (.ref a), some (.ref s0), some (.int (nI m)), some (.ref (a + 5 + 3 * m + 1)), some (.int (nI i))] [.int ((dC D m (i * 3 + 2))), .int ((dC D m (i * 3 + 1))), .ref a] _ G 0 0 Q
                refine V_aload_n d_Ru_lacksCalledMethod_55 rfl ?_
                refine V_callS (As := [.ref a, .int ((dC D m (i * 3 + 1))), .int ((dC D m (i * 3 + 2))), .ref s0]) (rest := []) (lo' := [some (.ref a), some (.int ((dC D m (i * 3 + 1)))), some (.int ((dC D m (i * 3 + 2)))), some (.ref s0), none]) (bc1 := 0) (bs1 := 0) (bc' := 0) (bs' := 0) d_Ru_lacksCalledMethod_56 k_Ru_lacksCalledMethod_102 rfl rfl rfl rfl (by rfl) (by rfl) ?_
                refine c_Ru_isCallable hD s ?_
                show pV Γ m_Ru_lacksCalledMethod 59 [some (.ref a), some (.ref s0), some (.int (nI m)), some (.ref (a + 5 + 3 * m + 1)), some (.int (nI i))] [.int (pB (pCal ld D (dC D m (i * 3 + 1)) (dC D m (i * 3 + 2))))] _ G 0 0 Q
                refine V_if_neB (tgt := 64) d_Ru_lacksCalledMethod_59 (by decide) (fun hb59 => ?_) (fun hb59 => ?_)
                · refine V_iincN d_Ru_lacksCalledMethod_64 rfl ?_
                  show pV Γ _ _ [some (.ref a), some (.ref s0), some (.int (nI m)), some (.ref (a + 5 + 3 * m + 1)), some (.int (nI (i + 1)))] _ _ _ _ _ _
                  refine V_goto (tgt := 23) d_Ru_lacksCalledMethod_67 (by decide) ?_
                  exact ih2 (i + 1) (by omega) (by omega) (fun k hk ek => by
                    rcases Nat.lt_or_ge k i with q | q
                    · exact hw k q ek
                    · have e : k = i := by omega
                      subst e
                      first | exact absurd ek hb39 | exact hb59)
                · refine V_iconst (v := nI 1) d_Ru_lacksCalledMethod_62 (by decide +kernel) ?_
                  exact V_zreturn d_Ru_lacksCalledMethod_63 rfl (by first | exact pB_or _ | exact Or.inl rfl | exact Or.inr rfl) (pQ_t hQ ⟨m, by omega, i, by omega, hb39, hb59⟩)
        exact inner (dL D m + 1) 0 (by omega) (by omega) (fun k hk => absurd hk (by omega))
  refine V_iconst (v := nI 0) d_Ru_lacksCalledMethod_0 (by decide +kernel) ?_
  refine V_istore_n d_Ru_lacksCalledMethod_1 (Nat.le_of_ble_eq_true rfl) ?_
  show pV Γ _ _ [some (.ref a), some (.ref s0), some (.int (nI 0)), none, none] _ _ _ _ _ _
  exact loop (dNm D + 1) 0 (by omega) (by omega) _ _ (fun k hk => absurd hk (by omega))
set_option maxHeartbeats 1000000 in
theorem c_Ru_firstBrokenAlone {Γ : pmE} {G : pmG} {n : Nat} {Q : pmPost} {a s0 lo hi : Nat} {D : Dfn} {f : Nat → Option Nat} {ld : LdS} (h : isDef G a D) (s : isSh G s0 f ld lo hi) (hQ : Q (some (.int (nI (pAlone ld D)))) n G) : pV Γ m_Ru_firstBrokenAlone 0 [some (.ref a), some (.ref s0)] [] n G 0 0 Q := by
  have hD := h
  obtain ⟨⟨hni, hnf, hnm, hln⟩, h1, ⟨f1, h2, h2'⟩, ⟨f2, h3, h3'⟩, ⟨f3, h4, h4'⟩, ⟨f4, h5, h5'⟩, h6, h7⟩ := h
  refine V_aload_n d_Ru_firstBrokenAlone_0 rfl ?_
  refine V_getf d_Ru_firstBrokenAlone_1 f_Ru_19 h1 rfl ?_
  refine V_iconst (v := nI 0) d_Ru_firstBrokenAlone_4 (by decide +kernel) ?_
  refine V_iaload (j := 0) d_Ru_firstBrokenAlone_5 rfl h2 rfl (by omega) (by omega) ?_
  rw [h2' 0 (by omega)]
  refine V_iconst (v := nI 1) d_Ru_firstBrokenAlone_6 (by decide +kernel) ?_
  refine V_icmp_lt (tgt := 21) d_Ru_firstBrokenAlone_7 (by decide) (fun hb7 => ?_) (fun hb7 => ?_)
  · refine V_iconst (v := nI 1) d_Ru_firstBrokenAlone_21 (by decide +kernel) ?_
    exact V_ireturn d_Ru_firstBrokenAlone_22 rfl (pQ_n hQ (by unfold pAlone; rw [pI_t (by first | exact Or.inl hb7 | exact Or.inr (Int32.not_le.mp hb18))]))
  · refine V_aload_n d_Ru_firstBrokenAlone_10 rfl ?_
    refine V_getf d_Ru_firstBrokenAlone_11 f_Ru_19 h1 rfl ?_
    refine V_iconst (v := nI 0) d_Ru_firstBrokenAlone_14 (by decide +kernel) ?_
    refine V_iaload (j := 0) d_Ru_firstBrokenAlone_15 rfl h2 rfl (by omega) (by omega) ?_
    rw [h2' 0 (by omega)]
    refine V_bipush (v := nI 9) d_Ru_firstBrokenAlone_16 (by decide +kernel) ?_
    refine V_icmp_le (tgt := 23) d_Ru_firstBrokenAlone_18 (by decide) (fun hb18 => ?_) (fun hb18 => ?_)
    · refine V_aload_n d_Ru_firstBrokenAlone_23 rfl ?_
      refine V_callV (As := []) (rest := []) (lo' := [some (.ref a), none, none]) (bc1 := 0) (bs1 := 0) (bc' := 0) (bs' := 0) d_Ru_firstBrokenAlone_24 k_Ru_firstBrokenAlone_25 h1 rfl rfl rfl rfl (by rfl) (by rfl) ?_
      refine c_Df_hasEqualInterfaces hD ?_
      show pV Γ m_Ru_firstBrokenAlone 27 [some (.ref a), some (.ref s0)] [.int (pB (pDup (dNi D) (dI D)))] _ G 0 0 Q
      refine V_if_neB (tgt := 51) d_Ru_firstBrokenAlone_27 (by decide) (fun hb27 => ?_) (fun hb27 => ?_)
      · refine V_iconst (v := nI 2) d_Ru_firstBrokenAlone_51 (by decide +kernel) ?_
        exact V_ireturn d_Ru_firstBrokenAlone_52 rfl (pQ_n hQ (by unfold pAlone; rw [pI_f (fun e => e.elim hb7 (fun e => absurd hb18 (Int32.not_le.mpr e))), pI_t (by first | exact Or.inl hb27 | exact Or.inr (Or.inl hb34) | exact Or.inr (Or.inr (Or.inl hb41)) | exact Or.inr (Or.inr (Or.inr hb48)))]))
      · refine V_aload_n d_Ru_firstBrokenAlone_30 rfl ?_
        refine V_callV (As := []) (rest := []) (lo' := [some (.ref a), none, none]) (bc1 := 0) (bs1 := 0) (bc' := 0) (bs' := 0) d_Ru_firstBrokenAlone_31 k_Ru_firstBrokenAlone_29 h1 rfl rfl rfl rfl (by rfl) (by rfl) ?_
        refine c_Df_hasFieldsOfOneName hD ?_
        show pV Γ m_Ru_firstBrokenAlone 34 [some (.ref a), some (.ref s0)] [.int (pB (pDup (dNf D) (fun k => dF D (k * 3))))] _ G 0 0 Q
        refine V_if_neB (tgt := 51) d_Ru_firstBrokenAlone_34 (by decide) (fun hb34 => ?_) (fun hb34 => ?_)
        · refine V_iconst (v := nI 2) d_Ru_firstBrokenAlone_51 (by decide +kernel) ?_
          exact V_ireturn d_Ru_firstBrokenAlone_52 rfl (pQ_n hQ (by unfold pAlone; rw [pI_f (fun e => e.elim hb7 (fun e => absurd hb18 (Int32.not_le.mpr e))), pI_t (by first | exact Or.inl hb27 | exact Or.inr (Or.inl hb34) | exact Or.inr (Or.inr (Or.inl hb41)) | exact Or.inr (Or.inr (Or.inr hb48)))]))
        · refine V_aload_n d_Ru_firstBrokenAlone_37 rfl ?_
          refine V_callV (As := []) (rest := []) (lo' := [some (.ref a), none, none]) (bc1 := 0) (bs1 := 0) (bc' := 0) (bs' := 0) d_Ru_firstBrokenAlone_38 k_Ru_firstBrokenAlone_32 h1 rfl rfl rfl rfl (by rfl) (by rfl) ?_
          refine c_Df_hasMethodsOfOneName hD ?_
          show pV Γ m_Ru_firstBrokenAlone 41 [some (.ref a), some (.ref s0)] [.int (pB (pDup (dNm D) (dN D)))] _ G 0 0 Q
          refine V_if_neB (tgt := 51) d_Ru_firstBrokenAlone_41 (by decide) (fun hb41 => ?_) (fun hb41 => ?_)
          · refine V_iconst (v := nI 2) d_Ru_firstBrokenAlone_51 (by decide +kernel) ?_
            exact V_ireturn d_Ru_firstBrokenAlone_52 rfl (pQ_n hQ (by unfold pAlone; rw [pI_f (fun e => e.elim hb7 (fun e => absurd hb18 (Int32.not_le.mpr e))), pI_t (by first | exact Or.inl hb27 | exact Or.inr (Or.inl hb34) | exact Or.inr (Or.inr (Or.inl hb41)) | exact Or.inr (Or.inr (Or.inr hb48)))]))
          · refine V_aload_n d_Ru_firstBrokenAlone_44 rfl ?_
            refine V_callS (As := [.ref a]) (rest := []) (lo' := [some (.ref a), none, none, none]) (bc1 := 0) (bs1 := 0) (bc' := 0) (bs' := 0) d_Ru_firstBrokenAlone_45 k_Ru_firstBrokenAlone_35 rfl rfl rfl rfl (by rfl) (by rfl) ?_
            refine c_Ru_hasUnknownOp hD ?_
            show pV Γ m_Ru_firstBrokenAlone 48 [some (.ref a), some (.ref s0)] [.int (pB (pUnk D))] _ G 0 0 Q
            refine V_if_eqB (tgt := 53) d_Ru_firstBrokenAlone_48 (by decide) (fun hb48 => ?_) (fun hb48 => ?_)
            · refine V_aload_n d_Ru_firstBrokenAlone_53 rfl ?_
              refine V_aload_n d_Ru_firstBrokenAlone_54 rfl ?_
              refine V_callS (As := [.ref a, .ref s0]) (rest := []) (lo' := [some (.ref a), some (.ref s0), none, none, none]) (bc1 := 0) (bs1 := 0) (bc' := 0) (bs' := 0) d_Ru_firstBrokenAlone_55 k_Ru_firstBrokenAlone_39 rfl rfl rfl rfl (by rfl) (by rfl) ?_
              refine c_Ru_meetsItselfAbove hD s ?_
              show pV Γ m_Ru_firstBrokenAlone 58 [some (.ref a), some (.ref s0)] [.int (pB (pMeet ld (dP D 1) 7 (dP D 2)))] _ G 0 0 Q
              refine V_if_eqB (tgt := 63) d_Ru_firstBrokenAlone_58 (by decide) (fun hb58 => ?_) (fun hb58 => ?_)
              · refine V_aload_n d_Ru_firstBrokenAlone_63 rfl ?_
                refine V_aload_n d_Ru_firstBrokenAlone_64 rfl ?_
                refine V_callS (As := [.ref a, .ref s0]) (rest := []) (lo' := [some (.ref a), some (.ref s0)]) (bc1 := 0) (bs1 := 0) (bc' := 0) (bs' := 0) d_Ru_firstBrokenAlone_65 k_Ru_firstBrokenAlone_43 rfl rfl rfl rfl (by rfl) (by rfl) ?_
                refine c_Ru_lacksSuper hD s ?_
                show pV Γ m_Ru_firstBrokenAlone 68 [some (.ref a), some (.ref s0)] [.int (pB (pNoSup ld D))] _ G 0 0 Q
                refine V_if_neB (tgt := 79) d_Ru_firstBrokenAlone_68 (by decide) (fun hb68 => ?_) (fun hb68 => ?_)
                · refine V_iconst (v := nI 4) d_Ru_firstBrokenAlone_79 (by decide +kernel) ?_
                  exact V_ireturn d_Ru_firstBrokenAlone_80 rfl (pQ_n hQ (by unfold pAlone; rw [pI_f (fun e => e.elim hb7 (fun e => absurd hb18 (Int32.not_le.mpr e))), pI_f (fun e => e.elim hb27 (fun e => e.elim hb34 (fun e => e.elim hb41 hb48))), pI_f hb58, pI_t (by first | exact Or.inl hb68 | exact Or.inr hb76)]))
                · refine V_aload_n d_Ru_firstBrokenAlone_71 rfl ?_
                  refine V_aload_n d_Ru_firstBrokenAlone_72 rfl ?_
                  refine V_callS (As := [.ref a, .ref s0]) (rest := []) (lo' := [some (.ref a), some (.ref s0), none, none, none]) (bc1 := 0) (bs1 := 0) (bc' := 0) (bs' := 0) d_Ru_firstBrokenAlone_73 k_Ru_firstBrokenAlone_46 rfl rfl rfl rfl (by rfl) (by rfl) ?_
                  refine c_Ru_lacksCalledMethod hD s ?_
                  show pV Γ m_Ru_firstBrokenAlone 76 [some (.ref a), some (.ref s0)] [.int (pB (pLack ld D))] _ G 0 0 Q
                  refine V_if_eqB (tgt := 81) d_Ru_firstBrokenAlone_76 (by decide) (fun hb76 => ?_) (fun hb76 => ?_)
                  · refine V_iconst (v := nI 0) d_Ru_firstBrokenAlone_81 (by decide +kernel) ?_
                    exact V_ireturn d_Ru_firstBrokenAlone_82 rfl (pQ_n hQ (by unfold pAlone; rw [pI_f (fun e => e.elim hb7 (fun e => absurd hb18 (Int32.not_le.mpr e))), pI_f (fun e => e.elim hb27 (fun e => e.elim hb34 (fun e => e.elim hb41 hb48))), pI_f hb58, pI_f (fun e => e.elim hb68 hb76)]))
                  · refine V_iconst (v := nI 4) d_Ru_firstBrokenAlone_79 (by decide +kernel) ?_
                    exact V_ireturn d_Ru_firstBrokenAlone_80 rfl (pQ_n hQ (by unfold pAlone; rw [pI_f (fun e => e.elim hb7 (fun e => absurd hb18 (Int32.not_le.mpr e))), pI_f (fun e => e.elim hb27 (fun e => e.elim hb34 (fun e => e.elim hb41 hb48))), pI_f hb58, pI_t (by first | exact Or.inl hb68 | exact Or.inr hb76)]))
              · refine V_iconst (v := nI 3) d_Ru_firstBrokenAlone_61 (by decide +kernel) ?_
                exact V_ireturn d_Ru_firstBrokenAlone_62 rfl (pQ_n hQ (by unfold pAlone; rw [pI_f (fun e => e.elim hb7 (fun e => absurd hb18 (Int32.not_le.mpr e))), pI_f (fun e => e.elim hb27 (fun e => e.elim hb34 (fun e => e.elim hb41 hb48))), pI_t hb58]))
            · refine V_iconst (v := nI 2) d_Ru_firstBrokenAlone_51 (by decide +kernel) ?_
              exact V_ireturn d_Ru_firstBrokenAlone_52 rfl (pQ_n hQ (by unfold pAlone; rw [pI_f (fun e => e.elim hb7 (fun e => absurd hb18 (Int32.not_le.mpr e))), pI_t (by first | exact Or.inl hb27 | exact Or.inr (Or.inl hb34) | exact Or.inr (Or.inr (Or.inl hb41)) | exact Or.inr (Or.inr (Or.inr hb48)))]))
    · refine V_iconst (v := nI 1) d_Ru_firstBrokenAlone_21 (by decide +kernel) ?_
      exact V_ireturn d_Ru_firstBrokenAlone_22 rfl (pQ_n hQ (by unfold pAlone; rw [pI_t (by first | exact Or.inl hb7 | exact Or.inr (Int32.not_le.mp hb18))]))
set_option maxHeartbeats 1000000 in
theorem c_Ru_firstBrokenBeside {Γ : pmE} {G : pmG} {n : Nat} {Q : pmPost} {a b : Nat} {D E : Dfn} {c : Int32} (h : isDef G a D) (j : isDef G b E) (hQ : Q (some (.int (nI (pBes D c E)))) n G) : pV Γ m_Ru_firstBrokenBeside 0 [some (.ref a), some (.int c), some (.ref b)] [] n G 0 0 Q := by
  have hD := h
  have hE := j
  obtain ⟨⟨hni, hnf, hnm, hln⟩, h1, ⟨f1, h2, h2'⟩, ⟨f2, h3, h3'⟩, ⟨f3, h4, h4'⟩, ⟨f4, h5, h5'⟩, h6, h7⟩ := h
  obtain ⟨⟨jni, jnf, jnm, jln⟩, j1, ⟨g1, j2, j2'⟩, ⟨g2, j3, j3'⟩, ⟨g3, j4, j4'⟩, ⟨g4, j5, j5'⟩, j6, j7⟩ := j
  refine V_aload_n d_Ru_firstBrokenBeside_0 rfl ?_
  refine V_getf d_Ru_firstBrokenBeside_1 f_Ru_19 h1 rfl ?_
  refine V_iconst (v := nI 1) d_Ru_firstBrokenBeside_4 (by decide +kernel) ?_
  refine V_iaload (j := 1) d_Ru_firstBrokenBeside_5 rfl h2 rfl (by omega) (by omega) ?_
  rw [h2' 1 (by omega)]
  refine V_iload_n d_Ru_firstBrokenBeside_6 rfl ?_
  refine V_icmp_eq (tgt := 12) d_Ru_firstBrokenBeside_7 (by decide) (fun hb7 => ?_) (fun hb7 => ?_)
  · refine V_aload_n d_Ru_firstBrokenBeside_12 rfl ?_
    refine V_getf d_Ru_firstBrokenBeside_13 f_Ru_19 h1 rfl ?_
    refine V_iconst (v := nI 2) d_Ru_firstBrokenBeside_16 (by decide +kernel) ?_
    refine V_iaload (j := 2) d_Ru_firstBrokenBeside_17 rfl h2 rfl (by omega) (by omega) ?_
    rw [h2' 2 (by omega)]
    refine V_aload_n d_Ru_firstBrokenBeside_18 rfl ?_
    refine V_getf d_Ru_firstBrokenBeside_19 f_Ru_19 j1 rfl ?_
    refine V_iconst (v := nI 2) d_Ru_firstBrokenBeside_22 (by decide +kernel) ?_
    refine V_iaload (j := 2) d_Ru_firstBrokenBeside_23 rfl j2 rfl (by omega) (by omega) ?_
    rw [j2' 2 (by omega)]
    refine V_icmp_ne (tgt := 35) d_Ru_firstBrokenBeside_24 (by decide) (fun hb24 => ?_) (fun hb24 => ?_)
    · refine V_bipush (v := nI 6) d_Ru_firstBrokenBeside_35 (by decide +kernel) ?_
      exact V_ireturn d_Ru_firstBrokenBeside_37 rfl (pQ_n hQ (by unfold pBes; rw [pI_f (fun e => e hb7), pI_t (by first | exact Or.inl hb24 | exact Or.inr hb32)]))
    · refine V_aload_n d_Ru_firstBrokenBeside_27 rfl ?_
      refine V_aload_n d_Ru_firstBrokenBeside_28 rfl ?_
      refine V_callV (As := [.ref b]) (rest := []) (lo' := [some (.ref a), some (.ref b), none]) (bc1 := 0) (bs1 := 0) (bc' := 0) (bs' := 0) d_Ru_firstBrokenBeside_29 k_Ru_firstBrokenBeside_49 h1 rfl rfl rfl rfl (by rfl) (by rfl) ?_
      refine c_Df_hasInterfacesOf hD hE ?_
      show pV Γ m_Ru_firstBrokenBeside 32 [some (.ref a), some (.int c), some (.ref b)] [.int (pB (pIfs D E))] _ G 0 0 Q
      refine V_if_neB (tgt := 38) d_Ru_firstBrokenBeside_32 (by decide) (fun hb32 => ?_) (fun hb32 => ?_)
      · refine V_aload_n d_Ru_firstBrokenBeside_38 rfl ?_
        refine V_aload_n d_Ru_firstBrokenBeside_39 rfl ?_
        refine V_callV (As := [.ref b]) (rest := []) (lo' := [some (.ref a), some (.ref b), none]) (bc1 := 0) (bs1 := 0) (bc' := 0) (bs' := 0) d_Ru_firstBrokenBeside_40 k_Ru_firstBrokenBeside_52 h1 rfl rfl rfl rfl (by rfl) (by rfl) ?_
        refine c_Df_hasFieldsOf hD hE ?_
        show pV Γ m_Ru_firstBrokenBeside 43 [some (.ref a), some (.int c), some (.ref b)] [.int (pB (pFds D E))] _ G 0 0 Q
        refine V_if_neB (tgt := 49) d_Ru_firstBrokenBeside_43 (by decide) (fun hb43 => ?_) (fun hb43 => ?_)
        · refine V_aload_n d_Ru_firstBrokenBeside_49 rfl ?_
          refine V_aload_n d_Ru_firstBrokenBeside_50 rfl ?_
          refine V_callV (As := [.ref a]) (rest := []) (lo' := [some (.ref b), some (.ref a), none]) (bc1 := 0) (bs1 := 0) (bc' := 0) (bs' := 0) d_Ru_firstBrokenBeside_51 k_Ru_firstBrokenBeside_55 j1 rfl rfl rfl rfl (by rfl) (by rfl) ?_
          refine c_Df_hasMethodNamesOf hE hD ?_
          show pV Γ m_Ru_firstBrokenBeside 54 [some (.ref a), some (.int c), some (.ref b)] [.int (pB (pNms E D))] _ G 0 0 Q
          refine V_if_neB (tgt := 60) d_Ru_firstBrokenBeside_54 (by decide) (fun hb54 => ?_) (fun hb54 => ?_)
          · refine V_aload_n d_Ru_firstBrokenBeside_60 rfl ?_
            refine V_aload_n d_Ru_firstBrokenBeside_61 rfl ?_
            refine V_callV (As := [.ref b]) (rest := []) (lo' := [some (.ref a), some (.ref b), none]) (bc1 := 0) (bs1 := 0) (bc' := 0) (bs' := 0) d_Ru_firstBrokenBeside_62 k_Ru_firstBrokenBeside_55 h1 rfl rfl rfl rfl (by rfl) (by rfl) ?_
            refine c_Df_hasMethodNamesOf hD hE ?_
            show pV Γ m_Ru_firstBrokenBeside 65 [some (.ref a), some (.int c), some (.ref b)] [.int (pB (pNms D E))] _ G 0 0 Q
            refine V_if_neB (tgt := 71) d_Ru_firstBrokenBeside_65 (by decide) (fun hb65 => ?_) (fun hb65 => ?_)
            · refine V_aload_n d_Ru_firstBrokenBeside_71 rfl ?_
              refine V_getf d_Ru_firstBrokenBeside_72 f_Ru_19 h1 rfl ?_
              refine V_iconst (v := nI 3) d_Ru_firstBrokenBeside_75 (by decide +kernel) ?_
              refine V_iaload (j := 3) d_Ru_firstBrokenBeside_76 rfl h2 rfl (by omega) (by omega) ?_
              rw [h2' 3 (by omega)]
              refine V_aload_n d_Ru_firstBrokenBeside_77 rfl ?_
              refine V_getf d_Ru_firstBrokenBeside_78 f_Ru_19 j1 rfl ?_
              refine V_iconst (v := nI 3) d_Ru_firstBrokenBeside_81 (by decide +kernel) ?_
              refine V_iaload (j := 3) d_Ru_firstBrokenBeside_82 rfl j2 rfl (by omega) (by omega) ?_
              rw [j2' 3 (by omega)]
              refine V_icmp_eq (tgt := 89) d_Ru_firstBrokenBeside_83 (by decide) (fun hb83 => ?_) (fun hb83 => ?_)
              · refine V_aload_n d_Ru_firstBrokenBeside_89 rfl ?_
                refine V_aload_n d_Ru_firstBrokenBeside_90 rfl ?_
                refine V_callV (As := [.ref b]) (rest := []) (lo' := [some (.ref a), some (.ref b), none, none]) (bc1 := 0) (bs1 := 0) (bc' := 0) (bs' := 0) d_Ru_firstBrokenBeside_91 k_Ru_firstBrokenBeside_58 h1 rfl rfl rfl rfl (by rfl) (by rfl) ?_
                refine c_Df_hasMethodFlagsOf hD hE ?_
                show pV Γ m_Ru_firstBrokenBeside 94 [some (.ref a), some (.int c), some (.ref b)] [.int (pB (pFlg D E))] _ G 0 0 Q
                refine V_if_neB (tgt := 100) d_Ru_firstBrokenBeside_94 (by decide) (fun hb94 => ?_) (fun hb94 => ?_)
                · refine V_aload_n d_Ru_firstBrokenBeside_100 rfl ?_
                  refine V_getf d_Ru_firstBrokenBeside_101 f_Ru_19 h1 rfl ?_
                  refine V_iconst (v := nI 4) d_Ru_firstBrokenBeside_104 (by decide +kernel) ?_
                  refine V_iaload (j := 4) d_Ru_firstBrokenBeside_105 rfl h2 rfl (by omega) (by omega) ?_
                  rw [h2' 4 (by omega)]
                  refine V_aload_n d_Ru_firstBrokenBeside_106 rfl ?_
                  refine V_getf d_Ru_firstBrokenBeside_107 f_Ru_19 j1 rfl ?_
                  refine V_iconst (v := nI 4) d_Ru_firstBrokenBeside_110 (by decide +kernel) ?_
                  refine V_iaload (j := 4) d_Ru_firstBrokenBeside_111 rfl j2 rfl (by omega) (by omega) ?_
                  rw [j2' 4 (by omega)]
                  refine V_icmp_eq (tgt := 118) d_Ru_firstBrokenBeside_112 (by decide) (fun hb112 => ?_) (fun hb112 => ?_)
                  · refine V_iconst (v := nI 0) d_Ru_firstBrokenBeside_118 (by decide +kernel) ?_
                    exact V_ireturn d_Ru_firstBrokenBeside_119 rfl (pQ_n hQ (by unfold pBes; rw [pI_f (fun e => e hb7), pI_f (fun e => e.elim (fun e => e hb24) (fun e => e hb32)), pI_f (fun e => e hb43), pI_f (fun e => e hb54), pI_f (fun e => e hb65), pI_f (fun e => e hb83), pI_f (fun e => e hb94), pI_f (fun e => e hb112)]))
                  · refine V_bipush (v := nI 12) d_Ru_firstBrokenBeside_115 (by decide +kernel) ?_
                    exact V_ireturn d_Ru_firstBrokenBeside_117 rfl (pQ_n hQ (by unfold pBes; rw [pI_f (fun e => e hb7), pI_f (fun e => e.elim (fun e => e hb24) (fun e => e hb32)), pI_f (fun e => e hb43), pI_f (fun e => e hb54), pI_f (fun e => e hb65), pI_f (fun e => e hb83), pI_f (fun e => e hb94), pI_t hb112]))
                · refine V_bipush (v := nI 11) d_Ru_firstBrokenBeside_97 (by decide +kernel) ?_
                  exact V_ireturn d_Ru_firstBrokenBeside_99 rfl (pQ_n hQ (by unfold pBes; rw [pI_f (fun e => e hb7), pI_f (fun e => e.elim (fun e => e hb24) (fun e => e hb32)), pI_f (fun e => e hb43), pI_f (fun e => e hb54), pI_f (fun e => e hb65), pI_f (fun e => e hb83), pI_t hb94]))
              · refine V_bipush (v := nI 10) d_Ru_firstBrokenBeside_86 (by decide +kernel) ?_
                exact V_ireturn d_Ru_firstBrokenBeside_88 rfl (pQ_n hQ (by unfold pBes; rw [pI_f (fun e => e hb7), pI_f (fun e => e.elim (fun e => e hb24) (fun e => e hb32)), pI_f (fun e => e hb43), pI_f (fun e => e hb54), pI_f (fun e => e hb65), pI_t hb83]))
            · refine V_bipush (v := nI 9) d_Ru_firstBrokenBeside_68 (by decide +kernel) ?_
              exact V_ireturn d_Ru_firstBrokenBeside_70 rfl (pQ_n hQ (by unfold pBes; rw [pI_f (fun e => e hb7), pI_f (fun e => e.elim (fun e => e hb24) (fun e => e hb32)), pI_f (fun e => e hb43), pI_f (fun e => e hb54), pI_t hb65]))
          · refine V_bipush (v := nI 8) d_Ru_firstBrokenBeside_57 (by decide +kernel) ?_
            exact V_ireturn d_Ru_firstBrokenBeside_59 rfl (pQ_n hQ (by unfold pBes; rw [pI_f (fun e => e hb7), pI_f (fun e => e.elim (fun e => e hb24) (fun e => e hb32)), pI_f (fun e => e hb43), pI_t hb54]))
        · refine V_bipush (v := nI 7) d_Ru_firstBrokenBeside_46 (by decide +kernel) ?_
          exact V_ireturn d_Ru_firstBrokenBeside_48 rfl (pQ_n hQ (by unfold pBes; rw [pI_f (fun e => e hb7), pI_f (fun e => e.elim (fun e => e hb24) (fun e => e hb32)), pI_t hb43]))
      · refine V_bipush (v := nI 6) d_Ru_firstBrokenBeside_35 (by decide +kernel) ?_
        exact V_ireturn d_Ru_firstBrokenBeside_37 rfl (pQ_n hQ (by unfold pBes; rw [pI_f (fun e => e hb7), pI_t (by first | exact Or.inl hb24 | exact Or.inr hb32)]))
  · refine V_iconst (v := nI 5) d_Ru_firstBrokenBeside_10 (by decide +kernel) ?_
    exact V_ireturn d_Ru_firstBrokenBeside_11 rfl (pQ_n hQ (by unfold pBes; rw [pI_t hb7]))
set_option maxHeartbeats 1000000 in
theorem c_Ru_firstBroken {Γ : pmE} {G : pmG} {n : Nat} {Q : pmPost} {a b s0 lo hi : Nat} {D E : Dfn} {c : Int32} {f : Nat → Option Nat} {ld : LdS} (h : isDef G a D) (j : isDef G b E) (s : isSh G s0 f ld lo hi) (hQ : Q (some (.int (nI (pRule ld D c E)))) n G) : pV Γ m_Ru_firstBroken 0 [some (.ref a), some (.int c), some (.ref b), some (.ref s0), none] [] n G 0 0 Q := by
  have hal := pAlone_le ld D
  refine V_aload_n d_Ru_firstBroken_0 rfl ?_
  refine V_aload_n d_Ru_firstBroken_1 rfl ?_
  refine V_callS (As := [.ref a, .ref s0]) (rest := []) (lo' := [some (.ref a), some (.ref s0)]) (bc1 := 0) (bs1 := 0) (bc' := 0) (bs' := 0) d_Ru_firstBroken_2 k_Ru_firstBroken_9 rfl rfl rfl rfl (by rfl) (by rfl) ?_
  refine c_Ru_firstBrokenAlone h s ?_
  show pV Γ m_Ru_firstBroken 5 [some (.ref a), some (.int c), some (.ref b), some (.ref s0), none] [.int (nI (pAlone ld D))] _ G 0 0 Q
  refine V_istore d_Ru_firstBroken_5 (Nat.le_of_ble_eq_true rfl) ?_
  show pV Γ _ _ [some (.ref a), some (.int c), some (.ref b), some (.ref s0), some (.int (nI (pAlone ld D)))] _ _ _ _ _ _
  refine V_iload d_Ru_firstBroken_7 rfl ?_
  refine V_if_eqN (tgt := 17) d_Ru_firstBroken_9 (by decide) (by omega) (fun hb9 => ?_) (fun hb9 => ?_)
  · refine V_aload_n d_Ru_firstBroken_17 rfl ?_
    refine V_iload_n d_Ru_firstBroken_18 rfl ?_
    refine V_aload_n d_Ru_firstBroken_19 rfl ?_
    refine V_callS (As := [.ref a, .int c, .ref b]) (rest := []) (lo' := [some (.ref a), some (.int c), some (.ref b)]) (bc1 := 0) (bs1 := 0) (bc' := 0) (bs' := 0) d_Ru_firstBroken_20 k_Ru_firstBroken_15 rfl rfl rfl rfl (by rfl) (by rfl) ?_
    refine c_Ru_firstBrokenBeside h j ?_
    show pV Γ m_Ru_firstBroken 23 [some (.ref a), some (.int c), some (.ref b), some (.ref s0), some (.int (nI (pAlone ld D)))] [.int (nI (pBes D c E))] _ G 0 0 Q
    exact V_ireturn d_Ru_firstBroken_23 rfl (pQ_n hQ (by unfold pRule; rw [if_pos hb9]))
  · refine V_iload d_Ru_firstBroken_12 rfl ?_
    refine V_goto (tgt := 23) d_Ru_firstBroken_14 (by decide) ?_
    exact V_ireturn d_Ru_firstBroken_23 rfl (pQ_n hQ (by unfold pRule; rw [if_neg hb9]))
