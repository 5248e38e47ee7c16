/-! The desk: kept, and its constructor. -/
def fIs (th : Nat → Thr) (c e : Int32) (i : Nat) : Prop := i % 5 < (th (i / 5)).1 ∧ ((th (i / 5)).2.1 (i % 5)).1 = c ∧ ((th (i / 5)).2.1 (i % 5)).2.1 = e
def kCon (th : Nat → Thr) (x : Int32) (e : Nat) (i : Nat) : Prop := i % 5 < (th (i / 5)).1 ∧ ((th (i / 5)).2.1 (i % 5)).1 = x ∧ ((th (i / 5)).2.1 (i % 5)).2.1 ≠ nI e ∧ ¬ ∃ j, j < i ∧ fIs th ((th (i / 5)).2.1 (i % 5)).1 ((th (i / 5)).2.1 (i % 5)).2.1 j
noncomputable def kCnt (th : Nat → Thr) (x : Int32) (e : Nat) : Nat → Nat
  | 0 => 0
  | i + 1 => kCnt th x e i + pI (kCon th x e i) 1 0
theorem kCnt_t {th : Nat → Thr} {x : Int32} {e i : Nat} (h : kCon th x e i) : kCnt th x e (i + 1) = kCnt th x e i + 1 := by
  show kCnt th x e i + pI (kCon th x e i) 1 0 = _
  rw [pI_t h]
theorem kCnt_f {th : Nat → Thr} {x : Int32} {e i : Nat} (h : ¬ kCon th x e i) : kCnt th x e (i + 1) = kCnt th x e i := by
  show kCnt th x e i + pI (kCon th x e i) 1 0 = _
  rw [pI_f h]; rfl
theorem kCnt_le (th : Nat → Thr) (x : Int32) (e i : Nat) : kCnt th x e i ≤ i := by
  induction i with
  | zero => exact Nat.le_refl _
  | succ i ih =>
    by_cases h : kCon th x e i
    · rw [kCnt_t h]; omega
    · rw [kCnt_f h]; omega
set_option maxHeartbeats 1000000 in
theorem c_HE_isFirstOfItsEdition {Γ : pmE} {G : pmG} {n : Nat} {Q : pmPost} {h nb t k fa : Nat} {ch : Option Nat} {th : Nat → Thr} {c1 e1 : Int32} {v2 v3 v4 : Value} (ht : t < 3) (hk5 : k < 5) (k1 : pHd G h ch nb) (kt : pTh G h th) (fo : G fa = some (.inr (kFr, [.int c1, .int e1, v2, v3, v4]))) (hQ : Q (some (.int (pB (¬ ∃ i, i < t * 5 + k ∧ fIs th c1 e1 i)))) n G) : pV Γ m_HE_isFirstOfItsEdition 0 [some (.ref h), some (.int (nI t)), some (.int (nI k)), some (.ref fa), none, none] [] n G 0 0 Q := by
  have loop : ∀ (d i : Nat), i ≤ t * 5 + k → t * 5 + k - i < d → ∀ w : Option Value, (∀ j, j < i → ¬ fIs th c1 e1 j) → pV Γ m_HE_isFirstOfItsEdition 3 [some (.ref h), some (.int (nI t)), some (.int (nI k)), some (.ref fa), some (.int (nI i)), w] [] n G 0 0 Q := by
    intro d
    induction d with
    | zero => intro i _ hd; exact absurd hd (by omega)
    | succ d ih =>
      intro i hi hd w hv
      refine V_iload d_HE_isFirstOfItsEdition_3 rfl ?_
      refine V_iload_n d_HE_isFirstOfItsEdition_5 rfl ?_
      refine V_iconst (v := nI 5) d_HE_isFirstOfItsEdition_6 (by decide +kernel) ?_
      refine V_imulN d_HE_isFirstOfItsEdition_7 ?_
      refine V_iload_n d_HE_isFirstOfItsEdition_8 rfl ?_
      refine V_iaddN d_HE_isFirstOfItsEdition_9 ?_
      refine V_icmp_geN (tgt := 64) d_HE_isFirstOfItsEdition_10 (by decide) (by omega) (by omega) (fun hb10 => ?_) (fun hb10 => ?_)
      · refine V_iconst (v := nI 1) d_HE_isFirstOfItsEdition_64 (by decide +kernel) ?_
        exact V_zreturn d_HE_isFirstOfItsEdition_65 rfl (by first | exact pB_or _ | exact Or.inl rfl | exact Or.inr rfl) (pQ_t hQ (fun ⟨j, hj, z⟩ => hv j (by omega) z))
      · refine V_aload_n d_HE_isFirstOfItsEdition_13 rfl ?_
        refine V_iload d_HE_isFirstOfItsEdition_14 rfl ?_
        refine V_iconst (v := nI 5) d_HE_isFirstOfItsEdition_16 (by decide +kernel) ?_
        refine V_idiv d_HE_isFirstOfItsEdition_17 (by decide) ?_
        rw [pk_div (by omega) (by omega) (by omega)]
        refine V_iload d_HE_isFirstOfItsEdition_18 rfl ?_
        refine V_iconst (v := nI 5) d_HE_isFirstOfItsEdition_20 (by decide +kernel) ?_
        refine V_irem d_HE_isFirstOfItsEdition_21 (by decide) ?_
        rw [pk_rem (by omega) (by omega) (by omega)]
        refine V_callV (As := [.int (nI (i / 5)), .int (nI (i % 5))]) (rest := []) (lo' := [some (.ref h), some (.int (nI (i / 5))), some (.int (nI (i % 5)))]) (bc1 := 0) (bs1 := 0) (bc' := 0) (bs' := 0) d_HE_isFirstOfItsEdition_22 k_HE_isFirstOfItsEdition_174 k1 rfl rfl rfl rfl (by rfl) (by rfl) ?_
        refine c_HE_findFrame k1 kt (fun hn => ?_) (fun a1 a2 ha1 hx hk hk2 => ?_)
        · show pV Γ m_HE_isFirstOfItsEdition 25 [some (.ref h), some (.int (nI t)), some (.int (nI k)), some (.ref fa), some (.int (nI i)), w] [.null] _ G 0 0 Q
          refine V_astoreN d_HE_isFirstOfItsEdition_25 (Nat.le_of_ble_eq_true rfl) ?_
          show pV Γ _ _ [some (.ref h), some (.int (nI t)), some (.int (nI k)), some (.ref fa), some (.int (nI i)), some (.null)] _ _ _ _ _ _
          refine V_aloadN d_HE_isFirstOfItsEdition_27 rfl ?_
          refine V_ifnullN (tgt := 58) d_HE_isFirstOfItsEdition_29 (by decide) ?_
          refine V_iincN d_HE_isFirstOfItsEdition_58 rfl ?_
          show pV Γ _ _ [some (.ref h), some (.int (nI t)), some (.int (nI k)), some (.ref fa), some (.int (nI (i + 1))), some (.null)] _ _ _ _ _ _
          refine V_goto (tgt := 3) d_HE_isFirstOfItsEdition_61 (by decide) ?_
          exact ih (i + 1) (by omega) (by omega) _ (fun j hj => by
            rcases Nat.lt_or_ge j i with q | q
            · exact hv j q
            · have e : j = i := by omega
              subst e
              first
                | exact fun z => hn ⟨j / 5, j % 5, by omega, rfl, rfl, z.1⟩
                | (unfold fIs; rw [e1', e2']; first | exact fun z => hb41 z.2.1 | exact fun z => hb53 z.2.2))
        · have e1' : i / 5 = a1 := (nI_eq (by omega) (by omega)).mp hx
          have h5 := (kt.2 a1 ha1).1
          have e2' : i % 5 = a2 := (nI_eq (by omega) (by omega)).mp hk
          have fm := ((kt.2 a1 ha1).2.2.2.2 a2 hk2).1.1
          show pV Γ m_HE_isFirstOfItsEdition 25 [some (.ref h), some (.int (nI t)), some (.int (nI k)), some (.ref fa), some (.int (nI i)), w] [.ref (h + 169 + 17 * a1 + 2 + 3 * a2)] _ G 0 0 Q
          refine V_astore d_HE_isFirstOfItsEdition_25 (Nat.le_of_ble_eq_true rfl) ?_
          show pV Γ _ _ [some (.ref h), some (.int (nI t)), some (.int (nI k)), some (.ref fa), some (.int (nI i)), some (.ref (h + 169 + 17 * a1 + 2 + 3 * a2))] _ _ _ _ _ _
          refine V_aload d_HE_isFirstOfItsEdition_27 rfl ?_
          refine V_ifnull d_HE_isFirstOfItsEdition_29 ?_
          refine V_aload d_HE_isFirstOfItsEdition_32 rfl ?_
          refine V_getf d_HE_isFirstOfItsEdition_34 f_HE_183 fm rfl ?_
          refine V_aload_n d_HE_isFirstOfItsEdition_37 rfl ?_
          refine V_getf d_HE_isFirstOfItsEdition_38 f_HE_183 fo rfl ?_
          refine V_icmp_ne (tgt := 58) d_HE_isFirstOfItsEdition_41 (by decide) (fun hb41 => ?_) (fun hb41 => ?_)
          · refine V_iincN d_HE_isFirstOfItsEdition_58 rfl ?_
            show pV Γ _ _ [some (.ref h), some (.int (nI t)), some (.int (nI k)), some (.ref fa), some (.int (nI (i + 1))), some (.ref (h + 169 + 17 * a1 + 2 + 3 * a2))] _ _ _ _ _ _
            refine V_goto (tgt := 3) d_HE_isFirstOfItsEdition_61 (by decide) ?_
            exact ih (i + 1) (by omega) (by omega) _ (fun j hj => by
              rcases Nat.lt_or_ge j i with q | q
              · exact hv j q
              · have e : j = i := by omega
                subst e
                first
                  | exact fun z => hn ⟨j / 5, j % 5, by omega, rfl, rfl, z.1⟩
                  | (unfold fIs; rw [e1', e2']; first | exact fun z => hb41 z.2.1 | exact fun z => hb53 z.2.2))
          · refine V_aload d_HE_isFirstOfItsEdition_44 rfl ?_
            refine V_getf d_HE_isFirstOfItsEdition_46 f_HE_178 fm rfl ?_
            refine V_aload_n d_HE_isFirstOfItsEdition_49 rfl ?_
            refine V_getf d_HE_isFirstOfItsEdition_50 f_HE_178 fo rfl ?_
            refine V_icmp_ne (tgt := 58) d_HE_isFirstOfItsEdition_53 (by decide) (fun hb53 => ?_) (fun hb53 => ?_)
            · refine V_iincN d_HE_isFirstOfItsEdition_58 rfl ?_
              show pV Γ _ _ [some (.ref h), some (.int (nI t)), some (.int (nI k)), some (.ref fa), some (.int (nI (i + 1))), some (.ref (h + 169 + 17 * a1 + 2 + 3 * a2))] _ _ _ _ _ _
              refine V_goto (tgt := 3) d_HE_isFirstOfItsEdition_61 (by decide) ?_
              exact ih (i + 1) (by omega) (by omega) _ (fun j hj => by
                rcases Nat.lt_or_ge j i with q | q
                · exact hv j q
                · have e : j = i := by omega
                  subst e
                  first
                    | exact fun z => hn ⟨j / 5, j % 5, by omega, rfl, rfl, z.1⟩
                    | (unfold fIs; rw [e1', e2']; first | exact fun z => hb41 z.2.1 | exact fun z => hb53 z.2.2))
            · refine V_iconst (v := nI 0) d_HE_isFirstOfItsEdition_56 (by decide +kernel) ?_
              exact V_zreturn d_HE_isFirstOfItsEdition_57 rfl (by first | exact pB_or _ | exact Or.inl rfl | exact Or.inr rfl) (pQ_f hQ (fun z => z ⟨i, by omega, by unfold fIs; rw [e1', e2']; exact ⟨hk2, hb41, hb53⟩⟩))
  refine V_iconst (v := nI 0) d_HE_isFirstOfItsEdition_0 (by decide +kernel) ?_
  refine V_istore d_HE_isFirstOfItsEdition_1 (Nat.le_of_ble_eq_true rfl) ?_
  show pV Γ _ _ [some (.ref h), some (.int (nI t)), some (.int (nI k)), some (.ref fa), some (.int (nI 0)), none] _ _ _ _ _ _
  exact loop (t * 5 + k + 1) 0 (by omega) (by omega) _ (fun j hj => absurd hj (by omega))
set_option maxHeartbeats 1000000 in
theorem c_HE_kept {Γ : pmE} {G : pmG} {n : Nat} {Q : pmPost} {h lo : Nat} {f : Nat → Option Nat} {D : Dfn} {ch : Option Nat} {ld : LdS} {trs : Nat → Trf} {nb : Nat} {bt : Nat → Int32 × Dfn} {th : Nat → Thr} (dk : isDk G h lo n f D ch ld trs nb bt th) {x : Int32} (hN : ¬ pLd ld x → Q (some (.int (nI 0))) n G) (hS : ∀ c L, c < 6 → x = nI c → ld c = some L → Q (some (.int (nI (1 + kCnt th x L.1 15)))) n G) : pV Γ m_HE_kept 0 [some (.ref h), some (.int x), none, none, none, none, none] [] n G 0 0 Q := by
  obtain ⟨k1, kd, ks, kc, kb, kg, kt, kx, ky, kl, kn⟩ := dk
  refine V_aload_n d_HE_kept_0 rfl ?_
  refine V_getf d_HE_kept_1 f_HE_23 k1 rfl ?_
  refine V_iload_n d_HE_kept_4 rfl ?_
  refine V_callV (As := [.int x]) (rest := []) (lo' := [some (.ref (h + 18)), some (.int x)]) (bc1 := 0) (bs1 := 0) (bc' := 0) (bs' := 0) d_HE_kept_5 k_HE_kept_58 ks.1 rfl rfl rfl rfl (by rfl) (by rfl) ?_
  refine c_Sh_find ks (fun hn => ?_) (fun c L b hc hx hl hf hlo hhi hL => ?_)
  · show pV Γ m_HE_kept 8 [some (.ref h), some (.int x), none, none, none, none, none] [.null] _ G 0 0 Q
    refine V_astore_nN d_HE_kept_8 (Nat.le_of_ble_eq_true rfl) ?_
    show pV Γ _ _ [some (.ref h), some (.int x), some (.null), none, none, none, none] _ _ _ _ _ _
    refine V_aload_nN d_HE_kept_9 rfl ?_
    refine V_ifnonnullN d_HE_kept_10 ?_
    refine V_iconst (v := nI 0) d_HE_kept_13 (by decide +kernel) ?_
    exact V_ireturn d_HE_kept_14 rfl (hN hn)
  · show pV Γ m_HE_kept 8 [some (.ref h), some (.int x), none, none, none, none, none] [.ref b] _ G 0 0 Q
    refine V_astore_n d_HE_kept_8 (Nat.le_of_ble_eq_true rfl) ?_
    show pV Γ _ _ [some (.ref h), some (.int x), some (.ref b), none, none, none, none] _ _ _ _ _ _
    refine V_aload_n d_HE_kept_9 rfl ?_
    refine V_ifnonnull (tgt := 15) d_HE_kept_10 (by decide) ?_
    refine V_iconst (v := nI 1) d_HE_kept_15 (by decide +kernel) ?_
    refine V_istore_n d_HE_kept_16 (Nat.le_of_ble_eq_true rfl) ?_
    show pV Γ _ _ [some (.ref h), some (.int x), some (.ref b), some (.int (nI 1)), none, none, none] _ _ _ _ _ _
    refine V_iconst (v := nI 0) d_HE_kept_17 (by decide +kernel) ?_
    refine V_istore d_HE_kept_18 (Nat.le_of_ble_eq_true rfl) ?_
    show pV Γ _ _ [some (.ref h), some (.int x), some (.ref b), some (.int (nI 1)), some (.int (nI 0)), none, none] _ _ _ _ _ _
    have loop : ∀ (d t : Nat), t ≤ 3 → 3 - t < d → ∀ w5 w6 : Option Value, pV Γ m_HE_kept 20 [some (.ref h), some (.int x), some (.ref b), some (.int (nI (1 + kCnt th x L.1 (5 * t)))), some (.int (nI t)), w5, w6] [] n G 0 0 Q := by
      intro d
      induction d with
      | zero => intro t _ hd; exact absurd hd (by omega)
      | succ d ih =>
        intro t hi hd w5 w6
        refine V_iload d_HE_kept_20 rfl ?_
        refine V_iconst (v := nI 3) d_HE_kept_22 (by decide +kernel) ?_
        refine V_icmp_geN (tgt := 99) d_HE_kept_23 (by decide) (by omega) (by omega) (fun hb23 => ?_) (fun hb23 => ?_)
        · refine V_iload_n d_HE_kept_99 rfl ?_
          exact V_ireturn d_HE_kept_100 rfl (by rw [show 5 * t = 15 by omega]; exact hS c L hc hx hl)
        · refine V_iconst (v := nI 0) d_HE_kept_26 (by decide +kernel) ?_
          refine V_istore d_HE_kept_27 (Nat.le_of_ble_eq_true rfl) ?_
          show pV Γ _ _ [some (.ref h), some (.int x), some (.ref b), some (.int (nI (1 + kCnt th x L.1 (5 * t)))), some (.int (nI t)), some (.int (nI 0)), w6] _ _ _ _ _ _
          have ht : t < 3 := by omega
          have inner : ∀ (d2 k : Nat), k ≤ 5 → 5 - k < d2 → ∀ w6 : Option Value, pV Γ m_HE_kept 29 [some (.ref h), some (.int x), some (.ref b), some (.int (nI (1 + kCnt th x L.1 (5 * t + k)))), some (.int (nI t)), some (.int (nI k)), w6] [] n G 0 0 Q := by
            intro d2
            induction d2 with
            | zero => intro k _ hd2; exact absurd hd2 (by omega)
            | succ d2 ih2 =>
              intro k hj hd2 w6
              have hle := kCnt_le th x L.1 (5 * t + k)
              refine V_iload d_HE_kept_29 rfl ?_
              refine V_iconst (v := nI 5) d_HE_kept_31 (by decide +kernel) ?_
              refine V_icmp_geN (tgt := 93) d_HE_kept_32 (by decide) (by omega) (by omega) (fun hb32 => ?_) (fun hb32 => ?_)
              · refine V_iincN d_HE_kept_93 rfl ?_
                show pV Γ _ _ [some (.ref h), some (.int x), some (.ref b), some (.int (nI (1 + kCnt th x L.1 (5 * t + k)))), some (.int (nI (t + 1))), some (.int (nI k)), w6] _ _ _ _ _ _
                refine V_goto (tgt := 20) d_HE_kept_96 (by decide) ?_
                rw [show 5 * t + k = 5 * (t + 1) by omega]
                exact ih (t + 1) (by omega) (by omega) _ _
              · refine V_aload_n d_HE_kept_35 rfl ?_
                refine V_iload d_HE_kept_36 rfl ?_
                refine V_iload d_HE_kept_38 rfl ?_
                refine V_callV (As := [.int (nI t), .int (nI k)]) (rest := []) (lo' := [some (.ref h), some (.int (nI t)), some (.int (nI k))]) (bc1 := 0) (bs1 := 0) (bc' := 0) (bs' := 0) d_HE_kept_40 k_HE_kept_174 k1 rfl rfl rfl rfl (by rfl) (by rfl) ?_
                refine c_HE_findFrame k1 kt (fun hn => ?_) (fun a1 a2 ha1 hx hk hk2 => ?_)
                · show pV Γ m_HE_kept 43 [some (.ref h), some (.int x), some (.ref b), some (.int (nI (1 + kCnt th x L.1 (5 * t + k)))), some (.int (nI t)), some (.int (nI k)), w6] [.null] _ G 0 0 Q
                  refine V_astoreN d_HE_kept_43 (Nat.le_of_ble_eq_true rfl) ?_
                  show pV Γ _ _ [some (.ref h), some (.int x), some (.ref b), some (.int (nI (1 + kCnt th x L.1 (5 * t + k)))), some (.int (nI t)), some (.int (nI k)), some (.null)] _ _ _ _ _ _
                  refine V_aloadN d_HE_kept_45 rfl ?_
                  refine V_ifnullN (tgt := 87) d_HE_kept_47 (by decide) ?_
                  refine V_iincN d_HE_kept_87 rfl ?_
                  show pV Γ _ _ [some (.ref h), some (.int x), some (.ref b), some (.int (nI (1 + kCnt th x L.1 (5 * t + k)))), some (.int (nI t)), some (.int (nI (k + 1))), some (.null)] _ _ _ _ _ _
                  refine V_goto (tgt := 29) d_HE_kept_90 (by decide) ?_
                  have hcon : ¬ kCon th x L.1 (5 * t + k) := by
                    unfold kCon
                    rw [show (5 * t + k) / 5 = t by omega, show (5 * t + k) % 5 = k by omega]
                    first
                      | exact fun z => hn ⟨t, k, ht, rfl, rfl, z.1⟩
                      | (rw [e1', e2']; first | exact fun z => hb56 z.2.1 | exact fun z => z.2.2.1 hb68 | exact fun z => hb81 (by rw [← e1', ← e2'] at z; rw [← e1', ← e2', show t * 5 + k = 5 * t + k by omega]; exact z.2.2.2))
                  rw [show 1 + kCnt th x L.1 (5 * t + k) = 1 + kCnt th x L.1 (5 * t + (k + 1)) by rw [show 5 * t + (k + 1) = 5 * t + k + 1 by omega, kCnt_f hcon]]
                  exact ih2 (k + 1) (by omega) (by omega) _
                · have e1' : t = a1 := (nI_eq (by omega) (by omega)).mp hx
                  have h5 := (kt.2 a1 ha1).1
                  have e2' : k = a2 := (nI_eq (by omega) (by omega)).mp hk
                  have fm := ((kt.2 a1 ha1).2.2.2.2 a2 hk2).1.1
                  show pV Γ m_HE_kept 43 [some (.ref h), some (.int x), some (.ref b), some (.int (nI (1 + kCnt th x L.1 (5 * t + k)))), some (.int (nI t)), some (.int (nI k)), w6] [.ref (h + 169 + 17 * a1 + 2 + 3 * a2)] _ G 0 0 Q
                  refine V_astore d_HE_kept_43 (Nat.le_of_ble_eq_true rfl) ?_
                  show pV Γ _ _ [some (.ref h), some (.int x), some (.ref b), some (.int (nI (1 + kCnt th x L.1 (5 * t + k)))), some (.int (nI t)), some (.int (nI k)), some (.ref (h + 169 + 17 * a1 + 2 + 3 * a2))] _ _ _ _ _ _
                  refine V_aload d_HE_kept_45 rfl ?_
                  refine V_ifnull d_HE_kept_47 ?_
                  refine V_aload d_HE_kept_50 rfl ?_
                  refine V_getf d_HE_kept_52 f_HE_183 fm rfl ?_
                  refine V_iload_n d_HE_kept_55 rfl ?_
                  refine V_icmp_ne (tgt := 87) d_HE_kept_56 (by decide) (fun hb56 => ?_) (fun hb56 => ?_)
                  · refine V_iincN d_HE_kept_87 rfl ?_
                    show pV Γ _ _ [some (.ref h), some (.int x), some (.ref b), some (.int (nI (1 + kCnt th x L.1 (5 * t + k)))), some (.int (nI t)), some (.int (nI (k + 1))), some (.ref (h + 169 + 17 * a1 + 2 + 3 * a2))] _ _ _ _ _ _
                    refine V_goto (tgt := 29) d_HE_kept_90 (by decide) ?_
                    have hcon : ¬ kCon th x L.1 (5 * t + k) := by
                      unfold kCon
                      rw [show (5 * t + k) / 5 = t by omega, show (5 * t + k) % 5 = k by omega]
                      first
                        | exact fun z => hn ⟨t, k, ht, rfl, rfl, z.1⟩
                        | (rw [e1', e2']; first | exact fun z => hb56 z.2.1 | exact fun z => z.2.2.1 hb68 | exact fun z => hb81 (by rw [← e1', ← e2'] at z; rw [← e1', ← e2', show t * 5 + k = 5 * t + k by omega]; exact z.2.2.2))
                    rw [show 1 + kCnt th x L.1 (5 * t + k) = 1 + kCnt th x L.1 (5 * t + (k + 1)) by rw [show 5 * t + (k + 1) = 5 * t + k + 1 by omega, kCnt_f hcon]]
                    exact ih2 (k + 1) (by omega) (by omega) _
                  · refine V_aload d_HE_kept_59 rfl ?_
                    refine V_getf d_HE_kept_61 f_HE_178 fm rfl ?_
                    refine V_aload_n d_HE_kept_64 rfl ?_
                    refine V_getf d_HE_kept_65 f_HE_189 hL.1 rfl ?_
                    refine V_icmp_eq (tgt := 87) d_HE_kept_68 (by decide) (fun hb68 => ?_) (fun hb68 => ?_)
                    · refine V_iincN d_HE_kept_87 rfl ?_
                      show pV Γ _ _ [some (.ref h), some (.int x), some (.ref b), some (.int (nI (1 + kCnt th x L.1 (5 * t + k)))), some (.int (nI t)), some (.int (nI (k + 1))), some (.ref (h + 169 + 17 * a1 + 2 + 3 * a2))] _ _ _ _ _ _
                      refine V_goto (tgt := 29) d_HE_kept_90 (by decide) ?_
                      have hcon : ¬ kCon th x L.1 (5 * t + k) := by
                        unfold kCon
                        rw [show (5 * t + k) / 5 = t by omega, show (5 * t + k) % 5 = k by omega]
                        first
                          | exact fun z => hn ⟨t, k, ht, rfl, rfl, z.1⟩
                          | (rw [e1', e2']; first | exact fun z => hb56 z.2.1 | exact fun z => z.2.2.1 hb68 | exact fun z => hb81 (by rw [← e1', ← e2'] at z; rw [← e1', ← e2', show t * 5 + k = 5 * t + k by omega]; exact z.2.2.2))
                      rw [show 1 + kCnt th x L.1 (5 * t + k) = 1 + kCnt th x L.1 (5 * t + (k + 1)) by rw [show 5 * t + (k + 1) = 5 * t + k + 1 by omega, kCnt_f hcon]]
                      exact ih2 (k + 1) (by omega) (by omega) _
                    · refine V_aload_n d_HE_kept_71 rfl ?_
                      refine V_iload d_HE_kept_72 rfl ?_
                      refine V_iload d_HE_kept_74 rfl ?_
                      refine V_aload d_HE_kept_76 rfl ?_
                      refine V_callV (As := [.int (nI t), .int (nI k), .ref (h + 169 + 17 * a1 + 2 + 3 * a2)]) (rest := []) (lo' := [some (.ref h), some (.int (nI t)), some (.int (nI k)), some (.ref (h + 169 + 17 * a1 + 2 + 3 * a2)), none, none]) (bc1 := 0) (bs1 := 0) (bc' := 0) (bs' := 0) d_HE_kept_78 k_HE_kept_190 k1 rfl rfl rfl rfl (by rfl) (by rfl) ?_
                      refine c_HE_isFirstOfItsEdition ht (by omega) k1 kt fm ?_
                      show pV Γ m_HE_kept 81 [some (.ref h), some (.int x), some (.ref b), some (.int (nI (1 + kCnt th x L.1 (5 * t + k)))), some (.int (nI t)), some (.int (nI k)), some (.ref (h + 169 + 17 * a1 + 2 + 3 * a2))] [.int (pB (¬ ∃ i, i < t * 5 + k ∧ fIs th ((th a1).2.1 a2).1 ((th a1).2.1 a2).2.1 i))] _ G 0 0 Q
                      refine V_if_eqB (tgt := 87) d_HE_kept_81 (by decide) (fun hb81 => ?_) (fun hb81 => ?_)
                      · refine V_iincN d_HE_kept_87 rfl ?_
                        show pV Γ _ _ [some (.ref h), some (.int x), some (.ref b), some (.int (nI (1 + kCnt th x L.1 (5 * t + k)))), some (.int (nI t)), some (.int (nI (k + 1))), some (.ref (h + 169 + 17 * a1 + 2 + 3 * a2))] _ _ _ _ _ _
                        refine V_goto (tgt := 29) d_HE_kept_90 (by decide) ?_
                        have hcon : ¬ kCon th x L.1 (5 * t + k) := by
                          unfold kCon
                          rw [show (5 * t + k) / 5 = t by omega, show (5 * t + k) % 5 = k by omega]
                          first
                            | exact fun z => hn ⟨t, k, ht, rfl, rfl, z.1⟩
                            | (rw [e1', e2']; first | exact fun z => hb56 z.2.1 | exact fun z => z.2.2.1 hb68 | exact fun z => hb81 (by rw [← e1', ← e2'] at z; rw [← e1', ← e2', show t * 5 + k = 5 * t + k by omega]; exact z.2.2.2))
                        rw [show 1 + kCnt th x L.1 (5 * t + k) = 1 + kCnt th x L.1 (5 * t + (k + 1)) by rw [show 5 * t + (k + 1) = 5 * t + k + 1 by omega, kCnt_f hcon]]
                        exact ih2 (k + 1) (by omega) (by omega) _
                      · refine V_iincN d_HE_kept_84 rfl ?_
                        show pV Γ _ _ [some (.ref h), some (.int x), some (.ref b), some (.int (nI (1 + kCnt th x L.1 (5 * t + k) + 1))), some (.int (nI t)), some (.int (nI k)), some (.ref (h + 169 + 17 * a1 + 2 + 3 * a2))] _ _ _ _ _ _
                        refine V_iincN d_HE_kept_87 rfl ?_
                        show pV Γ _ _ [some (.ref h), some (.int x), some (.ref b), some (.int (nI (1 + kCnt th x L.1 (5 * t + k) + 1))), some (.int (nI t)), some (.int (nI (k + 1))), some (.ref (h + 169 + 17 * a1 + 2 + 3 * a2))] _ _ _ _ _ _
                        refine V_goto (tgt := 29) d_HE_kept_90 (by decide) ?_
                        have hcon : kCon th x L.1 (5 * t + k) := by
                          unfold kCon
                          rw [show (5 * t + k) / 5 = t by omega, show (5 * t + k) % 5 = k by omega, e1', e2']
                          exact ⟨hk2, hb56, hb68, by rw [← e1', ← e2', show 5 * t + k = t * 5 + k by omega]; rw [← e1', ← e2'] at hb81; exact hb81⟩
                        rw [show 1 + kCnt th x L.1 (5 * t + k) + 1 = 1 + kCnt th x L.1 (5 * t + (k + 1)) by rw [show 5 * t + (k + 1) = 5 * t + k + 1 by omega, kCnt_t hcon]; omega]
                        exact ih2 (k + 1) (by omega) (by omega) _
          exact inner 6 0 (by omega) (by omega) _
    exact loop 4 0 (by omega) (by omega) _ _
set_option maxHeartbeats 1000000 in
theorem c_HE_init {Γ : pmE} {G : pmG} {n : Nat} {Q : pmPost} {lo : Nat} {bt : Nat → Int32 × Dfn} {fr : Nat → Frm} (hlo : lo ≤ lo) (hl : n + 220 ≤ lo) (h1 : G n = some (.inr (kHE, [.null, .int 0, .null, .null, .null, .int 0, .null, .null]))) (hQ : ∀ G', isDk G' n lo lo (fun _ => none) dBlk none (fun _ => none) (fun _ => (false, 0, nI 0, -1, false)) 0 bt (fun _ => (0, fr, nI 0)) → (∀ q, (q < n ∨ n + 220 ≤ q) → G' q = G q) → Q none (n + 220) G') : pV Γ m_HE_init 0 [some (.ref n), none] [] (n + 1) G 219 1562 Q := by
  refine V_aload_n d_HE_init_0 rfl ?_
  refine V_objInit d_HE_init_1 w_20 w_21 w_22 (by decide +kernel) rfl ?_
  refine V_aload_n d_HE_init_4 rfl ?_
  refine V_new d_HE_init_5 n_HE_7 (by rfl) (by rfl) (fun G1 hn1 ho1 => ?_)
  have hn1 : G1 (n + 1) = some (.inr (kDf, [.null, .null, .int 0, .null, .int 0, .null, .int 0])) := hn1
  show pV Γ _ _ _ (.ref (n + 1) :: _) (n + 2) _ _ _ _
  have h1 := (ho1 _ (by omega)).trans h1
  refine V_dup d_HE_init_8 rfl ?_
  refine V_callI (As := []) (rest := [.ref (n + 1), .ref n]) (lo' := [some (.ref (n + 1)), none]) (bc1 := 16) (bs1 := 116) (bc' := 202) (bs' := 1439) d_HE_init_9 k_HE_init_9 rfl rfl rfl rfl (by rfl) (by rfl) ?_
  refine c_Df_init hn1 (fun G2 df0 ho2 => ?_)
  have h1 := (ho2 _ (by omega)).trans h1
  show pV Γ m_HE_init 12 [some (.ref n), none] [.ref (n + 1), .ref n] (n + 18) G2 202 1439 Q
  refine V_putF d_HE_init_12 p_HE_10 rfl h1 rfl rfl rfl (fun G3 h1z ho3 => ?_)
  have h1 : G3 n = some (.inr (kHE, [.ref (n + 1), .int 0, .null, .null, .null, .int 0, .null, .null])) := h1z
  have df0 := df0.kept (fun q g1 g2 => ho3 q (by omega))
  refine V_aload_n d_HE_init_15 rfl ?_
  refine V_iconst (v := (-1)) d_HE_init_16 (by decide +kernel) ?_
  refine V_putf d_HE_init_17 f_HE_16 p_HE_16 h1 rfl rfl rfl (fun G4 h1z ho4 => ?_)
  have h1 : G4 n = some (.inr (kHE, [.ref (n + 1), .int ((-1)), .null, .null, .null, .int 0, .null, .null])) := h1z
  have df0 := df0.kept (fun q g1 g2 => ho4 q (by omega))
  refine V_aload_n d_HE_init_20 rfl ?_
  refine V_new d_HE_init_21 n_HE_20 (by rfl) (by rfl) (fun G5 hn5 ho5 => ?_)
  have hn5 : G5 (n + 18) = some (.inr (kSh, [.null])) := hn5
  show pV Γ _ _ _ (.ref (n + 18) :: _) (n + 19) _ _ _ _
  have h1 := (ho5 _ (by omega)).trans h1
  have df0 := df0.kept (fun q g1 g2 => ho5 q (by omega))
  refine V_dup d_HE_init_24 rfl ?_
  refine V_callI (As := []) (rest := [.ref (n + 18), .ref n]) (lo' := [some (.ref (n + 18))]) (bc1 := 1) (bs1 := 6) (bc' := 200) (bs' := 1432) d_HE_init_25 k_HE_init_22 rfl rfl rfl rfl (by rfl) (by rfl) ?_
  refine c_Sh_init (lo := lo) (hi := lo) hn5 (fun G6 sh1 ho6 => ?_)
  have h1 := (ho6 _ (by omega)).trans h1
  have df0 := df0.kept (fun q g1 g2 => ho6 q (by omega))
  show pV Γ m_HE_init 28 [some (.ref n), none] [.ref (n + 18), .ref n] (n + 20) G6 200 1432 Q
  refine V_putF d_HE_init_28 p_HE_23 rfl h1 rfl rfl rfl (fun G7 h1z ho7 => ?_)
  have h1 : G7 n = some (.inr (kHE, [.ref (n + 1), .int ((-1)), .ref (n + 18), .null, .null, .int 0, .null, .null])) := h1z
  have df0 := df0.kept (fun q g1 g2 => ho7 q (by omega))
  have sh1 := sh1.kept (fun q hq => ho7 q (by omega))
  refine V_aload_n d_HE_init_31 rfl ?_
  refine V_new d_HE_init_32 n_HE_27 (by rfl) (by rfl) (fun G8 hn8 ho8 => ?_)
  have hn8 : G8 (n + 20) = some (.inr (kCh, [.null])) := hn8
  show pV Γ _ _ _ (.ref (n + 20) :: _) (n + 21) _ _ _ _
  have h1 := (ho8 _ (by omega)).trans h1
  have df0 := df0.kept (fun q g1 g2 => ho8 q (by omega))
  have sh1 := sh1.kept (fun q hq => ho8 q (by omega))
  refine V_dup d_HE_init_35 rfl ?_
  refine V_callI (As := []) (rest := [.ref (n + 20), .ref n]) (lo' := [some (.ref (n + 20)), none]) (bc1 := 6) (bs1 := 30) (bc' := 193) (bs' := 1401) d_HE_init_36 k_HE_init_29 rfl rfl rfl rfl (by rfl) (by rfl) ?_
  refine c_Ch_init hn8 (fun G9 ch2 ho9 => ?_)
  have h1 := (ho9 _ (by omega)).trans h1
  have df0 := df0.kept (fun q g1 g2 => ho9 q (by omega))
  have sh1 := sh1.kept (fun q hq => ho9 q (by omega))
  show pV Γ m_HE_init 39 [some (.ref n), none] [.ref (n + 20), .ref n] (n + 27) G9 193 1401 Q
  refine V_putF d_HE_init_39 p_HE_30 rfl h1 rfl rfl rfl (fun G10 h1z ho10 => ?_)
  have h1 : G10 n = some (.inr (kHE, [.ref (n + 1), .int ((-1)), .ref (n + 18), .ref (n + 20), .null, .int 0, .null, .null])) := h1z
  have df0 := df0.kept (fun q g1 g2 => ho10 q (by omega))
  have sh1 := sh1.kept (fun q hq => ho10 q (by omega))
  have ch2 := ch2.kept (fun q g1 g2 => ho10 q (by omega))
  refine V_aload_n d_HE_init_42 rfl ?_
  refine V_iconst (v := nI 3) d_HE_init_43 (by decide +kernel) ?_
  refine V_anew (k := 13) (N := 3) d_HE_init_44 rfl (by decide) w_155 w_156 rfl (by rfl) (by rfl) (fun G11 hn11 ho11 => ?_)
  have hn11 : G11 (n + 27) = some (.inl (13, 3, .inr (.inr (.inr (.inr (fun _ => none)))))) := hn11
  show pV Γ _ _ _ (.ref (n + 27) :: _) (n + 28) _ _ _ _
  have h1 := (ho11 _ (by omega)).trans h1
  have df0 := df0.kept (fun q g1 g2 => ho11 q (by omega))
  have sh1 := sh1.kept (fun q hq => ho11 q (by omega))
  have ch2 := ch2.kept (fun q g1 g2 => ho11 q (by omega))
  refine V_putF d_HE_init_47 p_HE_36 rfl h1 rfl rfl rfl (fun G12 h1z ho12 => ?_)
  have h1 : G12 n = some (.inr (kHE, [.ref (n + 1), .int ((-1)), .ref (n + 18), .ref (n + 20), .ref (n + 27), .int 0, .null, .null])) := h1z
  have df0 := df0.kept (fun q g1 g2 => ho12 q (by omega))
  have sh1 := sh1.kept (fun q hq => ho12 q (by omega))
  have ch2 := ch2.kept (fun q g1 g2 => ho12 q (by omega))
  have hn11 := (ho12 _ (by omega)).trans hn11
  refine V_aload_n d_HE_init_50 rfl ?_
  refine V_iconst (v := nI 0) d_HE_init_51 (by decide +kernel) ?_
  refine V_putf d_HE_init_52 f_HE_40 p_HE_40 h1 rfl rfl rfl (fun G13 h1z ho13 => ?_)
  have h1 : G13 n = some (.inr (kHE, [.ref (n + 1), .int ((-1)), .ref (n + 18), .ref (n + 20), .ref (n + 27), .int (nI 0), .null, .null])) := h1z
  have df0 := df0.kept (fun q g1 g2 => ho13 q (by omega))
  have sh1 := sh1.kept (fun q hq => ho13 q (by omega))
  have ch2 := ch2.kept (fun q g1 g2 => ho13 q (by omega))
  have hn11 := (ho13 _ (by omega)).trans hn11
  refine V_aload_n d_HE_init_55 rfl ?_
  refine V_new d_HE_init_56 n_HE_34 (by rfl) (by rfl) (fun G14 hn14 ho14 => ?_)
  have hn14 : G14 (n + 28) = some (.inr (kTr, [.int 0, .null, .null])) := hn14
  show pV Γ _ _ _ (.ref (n + 28) :: _) (n + 29) _ _ _ _
  have h1 := (ho14 _ (by omega)).trans h1
  have df0 := df0.kept (fun q g1 g2 => ho14 q (by omega))
  have sh1 := sh1.kept (fun q hq => ho14 q (by omega))
  have ch2 := ch2.kept (fun q g1 g2 => ho14 q (by omega))
  have hn11 := (ho14 _ (by omega)).trans hn11
  refine V_dup d_HE_init_59 rfl ?_
  refine V_callI (As := []) (rest := [.ref (n + 28), .ref n]) (lo' := [some (.ref (n + 28))]) (bc1 := 34) (bs1 := 246) (bc' := 157) (bs' := 1149) d_HE_init_60 k_HE_init_43 rfl rfl rfl rfl (by rfl) (by rfl) ?_
  refine c_Tr_init hn14 (fun G15 tr3 ho15 => ?_)
  have h1 := (ho15 _ (by omega)).trans h1
  have df0 := df0.kept (fun q g1 g2 => ho15 q (by omega))
  have sh1 := sh1.kept (fun q hq => ho15 q (by omega))
  have ch2 := ch2.kept (fun q g1 g2 => ho15 q (by omega))
  have hn11 := (ho15 _ (by omega)).trans hn11
  show pV Γ m_HE_init 63 [some (.ref n), none] [.ref (n + 28), .ref n] (n + 63) G15 157 1149 Q
  refine V_putF d_HE_init_63 p_HE_44 rfl h1 rfl rfl rfl (fun G16 h1z ho16 => ?_)
  have h1 : G16 n = some (.inr (kHE, [.ref (n + 1), .int ((-1)), .ref (n + 18), .ref (n + 20), .ref (n + 27), .int (nI 0), .ref (n + 28), .null])) := h1z
  have df0 := df0.kept (fun q g1 g2 => ho16 q (by omega))
  have sh1 := sh1.kept (fun q hq => ho16 q (by omega))
  have ch2 := ch2.kept (fun q g1 g2 => ho16 q (by omega))
  have hn11 := (ho16 _ (by omega)).trans hn11
  have tr3 := tr3.kept (fun q g1 g2 => ho16 q (by omega))
  refine V_aload_n d_HE_init_66 rfl ?_
  refine V_iconst (v := nI 3) d_HE_init_67 (by decide +kernel) ?_
  refine V_anew (k := 4) (N := 3) d_HE_init_68 rfl (by decide) w_182 w_183 rfl (by rfl) (by rfl) (fun G17 hn17 ho17 => ?_)
  have hn17 : G17 (n + 63) = some (.inl (4, 3, .inr (.inr (.inr (.inr (fun _ => none)))))) := hn17
  show pV Γ _ _ _ (.ref (n + 63) :: _) (n + 64) _ _ _ _
  have h1 := (ho17 _ (by omega)).trans h1
  have df0 := df0.kept (fun q g1 g2 => ho17 q (by omega))
  have sh1 := sh1.kept (fun q hq => ho17 q (by omega))
  have ch2 := ch2.kept (fun q g1 g2 => ho17 q (by omega))
  have hn11 := (ho17 _ (by omega)).trans hn11
  have tr3 := tr3.kept (fun q g1 g2 => ho17 q (by omega))
  refine V_putF d_HE_init_71 p_HE_50 rfl h1 rfl rfl rfl (fun G18 h1z ho18 => ?_)
  have h1 : G18 n = some (.inr (kHE, [.ref (n + 1), .int ((-1)), .ref (n + 18), .ref (n + 20), .ref (n + 27), .int (nI 0), .ref (n + 28), .ref (n + 63)])) := h1z
  have df0 := df0.kept (fun q g1 g2 => ho18 q (by omega))
  have sh1 := sh1.kept (fun q hq => ho18 q (by omega))
  have ch2 := ch2.kept (fun q g1 g2 => ho18 q (by omega))
  have hn11 := (ho18 _ (by omega)).trans hn11
  have tr3 := tr3.kept (fun q g1 g2 => ho18 q (by omega))
  have hn17 := (ho18 _ (by omega)).trans hn17
  refine V_iconst (v := nI 0) d_HE_init_74 (by decide +kernel) ?_
  refine V_istore_n d_HE_init_75 (Nat.le_of_ble_eq_true rfl) ?_
  show pV Γ _ _ [some (.ref n), some (.int (nI 0))] _ _ _ _ _ _
  refine V_iload_n d_HE_init_76 rfl ?_
  refine V_iconst (v := nI 3) d_HE_init_77 (by decide +kernel) ?_
  refine V_icmp_geN (tgt := 100) d_HE_init_78 (by decide) (by omega) (by omega) (fun h => absurd h (by omega)) (fun _ => ?_)
  refine V_aload_n d_HE_init_81 rfl ?_
  refine V_getf d_HE_init_82 f_HE_36 h1 rfl ?_
  refine V_iload_n d_HE_init_85 rfl ?_
  refine V_new d_HE_init_86 n_HE_34 (by rfl) (by rfl) (fun G19 hn19 ho19 => ?_)
  have hn19 : G19 (n + 64) = some (.inr (kTr, [.int 0, .null, .null])) := hn19
  show pV Γ _ _ _ (.ref (n + 64) :: _) (n + 65) _ _ _ _
  have h1 := (ho19 _ (by omega)).trans h1
  have df0 := df0.kept (fun q g1 g2 => ho19 q (by omega))
  have sh1 := sh1.kept (fun q hq => ho19 q (by omega))
  have ch2 := ch2.kept (fun q g1 g2 => ho19 q (by omega))
  have hn11 := (ho19 _ (by omega)).trans hn11
  have tr3 := tr3.kept (fun q g1 g2 => ho19 q (by omega))
  have hn17 := (ho19 _ (by omega)).trans hn17
  refine V_dup d_HE_init_89 rfl ?_
  refine V_callI (As := []) (rest := [.ref (n + 64), .int (nI 0), .ref (n + 27)]) (lo' := [some (.ref (n + 64))]) (bc1 := 34) (bs1 := 246) (bc' := 121) (bs' := 897) d_HE_init_90 k_HE_init_43 rfl rfl rfl rfl (by rfl) (by rfl) ?_
  refine c_Tr_init hn19 (fun G20 tr4 ho20 => ?_)
  have h1 := (ho20 _ (by omega)).trans h1
  have df0 := df0.kept (fun q g1 g2 => ho20 q (by omega))
  have sh1 := sh1.kept (fun q hq => ho20 q (by omega))
  have ch2 := ch2.kept (fun q g1 g2 => ho20 q (by omega))
  have hn11 := (ho20 _ (by omega)).trans hn11
  have tr3 := tr3.kept (fun q g1 g2 => ho20 q (by omega))
  have hn17 := (ho20 _ (by omega)).trans hn17
  show pV Γ m_HE_init 93 [some (.ref n), some (.int (nI 0))] [.ref (n + 64), .int (nI 0), .ref (n + 27)] (n + 99) G20 121 897 Q
  refine V_aastore (ci := 11) (j := 0) d_HE_init_93 rfl rfl hn11 tr4.1 rfl (by omega) (by omega) (fun G21 hn11z ho21 => ?_)
  have hn11 := hn11z
  have h1 := (ho21 _ (by omega)).trans h1
  have df0 := df0.kept (fun q g1 g2 => ho21 q (by omega))
  have sh1 := sh1.kept (fun q hq => ho21 q (by omega))
  have ch2 := ch2.kept (fun q g1 g2 => ho21 q (by omega))
  have tr3 := tr3.kept (fun q g1 g2 => ho21 q (by omega))
  have hn17 := (ho21 _ (by omega)).trans hn17
  have tr4 := tr4.kept (fun q g1 g2 => ho21 q (by omega))
  refine V_iincN d_HE_init_94 rfl ?_
  show pV Γ _ _ [some (.ref n), some (.int (nI 1))] _ _ _ _ _ _
  refine V_goto (tgt := 76) d_HE_init_97 (by decide) ?_
  refine V_iload_n d_HE_init_76 rfl ?_
  refine V_iconst (v := nI 3) d_HE_init_77 (by decide +kernel) ?_
  refine V_icmp_geN (tgt := 100) d_HE_init_78 (by decide) (by omega) (by omega) (fun h => absurd h (by omega)) (fun _ => ?_)
  refine V_aload_n d_HE_init_81 rfl ?_
  refine V_getf d_HE_init_82 f_HE_36 h1 rfl ?_
  refine V_iload_n d_HE_init_85 rfl ?_
  refine V_new d_HE_init_86 n_HE_34 (by rfl) (by rfl) (fun G22 hn22 ho22 => ?_)
  have hn22 : G22 (n + 99) = some (.inr (kTr, [.int 0, .null, .null])) := hn22
  show pV Γ _ _ _ (.ref (n + 99) :: _) (n + 100) _ _ _ _
  have h1 := (ho22 _ (by omega)).trans h1
  have df0 := df0.kept (fun q g1 g2 => ho22 q (by omega))
  have sh1 := sh1.kept (fun q hq => ho22 q (by omega))
  have ch2 := ch2.kept (fun q g1 g2 => ho22 q (by omega))
  have hn11 := (ho22 _ (by omega)).trans hn11
  have tr3 := tr3.kept (fun q g1 g2 => ho22 q (by omega))
  have hn17 := (ho22 _ (by omega)).trans hn17
  have tr4 := tr4.kept (fun q g1 g2 => ho22 q (by omega))
  refine V_dup d_HE_init_89 rfl ?_
  refine V_callI (As := []) (rest := [.ref (n + 99), .int (nI 1), .ref (n + 27)]) (lo' := [some (.ref (n + 99))]) (bc1 := 34) (bs1 := 246) (bc' := 86) (bs' := 648) d_HE_init_90 k_HE_init_43 rfl rfl rfl rfl (by rfl) (by rfl) ?_
  refine c_Tr_init hn22 (fun G23 tr5 ho23 => ?_)
  have h1 := (ho23 _ (by omega)).trans h1
  have df0 := df0.kept (fun q g1 g2 => ho23 q (by omega))
  have sh1 := sh1.kept (fun q hq => ho23 q (by omega))
  have ch2 := ch2.kept (fun q g1 g2 => ho23 q (by omega))
  have hn11 := (ho23 _ (by omega)).trans hn11
  have tr3 := tr3.kept (fun q g1 g2 => ho23 q (by omega))
  have hn17 := (ho23 _ (by omega)).trans hn17
  have tr4 := tr4.kept (fun q g1 g2 => ho23 q (by omega))
  show pV Γ m_HE_init 93 [some (.ref n), some (.int (nI 1))] [.ref (n + 99), .int (nI 1), .ref (n + 27)] (n + 134) G23 86 648 Q
  refine V_aastore (ci := 11) (j := 1) d_HE_init_93 rfl rfl hn11 tr5.1 rfl (by omega) (by omega) (fun G24 hn11z ho24 => ?_)
  have hn11 := hn11z
  have h1 := (ho24 _ (by omega)).trans h1
  have df0 := df0.kept (fun q g1 g2 => ho24 q (by omega))
  have sh1 := sh1.kept (fun q hq => ho24 q (by omega))
  have ch2 := ch2.kept (fun q g1 g2 => ho24 q (by omega))
  have tr3 := tr3.kept (fun q g1 g2 => ho24 q (by omega))
  have hn17 := (ho24 _ (by omega)).trans hn17
  have tr4 := tr4.kept (fun q g1 g2 => ho24 q (by omega))
  have tr5 := tr5.kept (fun q g1 g2 => ho24 q (by omega))
  refine V_iincN d_HE_init_94 rfl ?_
  show pV Γ _ _ [some (.ref n), some (.int (nI 2))] _ _ _ _ _ _
  refine V_goto (tgt := 76) d_HE_init_97 (by decide) ?_
  refine V_iload_n d_HE_init_76 rfl ?_
  refine V_iconst (v := nI 3) d_HE_init_77 (by decide +kernel) ?_
  refine V_icmp_geN (tgt := 100) d_HE_init_78 (by decide) (by omega) (by omega) (fun h => absurd h (by omega)) (fun _ => ?_)
  refine V_aload_n d_HE_init_81 rfl ?_
  refine V_getf d_HE_init_82 f_HE_36 h1 rfl ?_
  refine V_iload_n d_HE_init_85 rfl ?_
  refine V_new d_HE_init_86 n_HE_34 (by rfl) (by rfl) (fun G25 hn25 ho25 => ?_)
  have hn25 : G25 (n + 134) = some (.inr (kTr, [.int 0, .null, .null])) := hn25
  show pV Γ _ _ _ (.ref (n + 134) :: _) (n + 135) _ _ _ _
  have h1 := (ho25 _ (by omega)).trans h1
  have df0 := df0.kept (fun q g1 g2 => ho25 q (by omega))
  have sh1 := sh1.kept (fun q hq => ho25 q (by omega))
  have ch2 := ch2.kept (fun q g1 g2 => ho25 q (by omega))
  have hn11 := (ho25 _ (by omega)).trans hn11
  have tr3 := tr3.kept (fun q g1 g2 => ho25 q (by omega))
  have hn17 := (ho25 _ (by omega)).trans hn17
  have tr4 := tr4.kept (fun q g1 g2 => ho25 q (by omega))
  have tr5 := tr5.kept (fun q g1 g2 => ho25 q (by omega))
  refine V_dup d_HE_init_89 rfl ?_
  refine V_callI (As := []) (rest := [.ref (n + 134), .int (nI 2), .ref (n + 27)]) (lo' := [some (.ref (n + 134))]) (bc1 := 34) (bs1 := 246) (bc' := 51) (bs' := 399) d_HE_init_90 k_HE_init_43 rfl rfl rfl rfl (by rfl) (by rfl) ?_
  refine c_Tr_init hn25 (fun G26 tr6 ho26 => ?_)
  have h1 := (ho26 _ (by omega)).trans h1
  have df0 := df0.kept (fun q g1 g2 => ho26 q (by omega))
  have sh1 := sh1.kept (fun q hq => ho26 q (by omega))
  have ch2 := ch2.kept (fun q g1 g2 => ho26 q (by omega))
  have hn11 := (ho26 _ (by omega)).trans hn11
  have tr3 := tr3.kept (fun q g1 g2 => ho26 q (by omega))
  have hn17 := (ho26 _ (by omega)).trans hn17
  have tr4 := tr4.kept (fun q g1 g2 => ho26 q (by omega))
  have tr5 := tr5.kept (fun q g1 g2 => ho26 q (by omega))
  show pV Γ m_HE_init 93 [some (.ref n), some (.int (nI 2))] [.ref (n + 134), .int (nI 2), .ref (n + 27)] (n + 169) G26 51 399 Q
  refine V_aastore (ci := 11) (j := 2) d_HE_init_93 rfl rfl hn11 tr6.1 rfl (by omega) (by omega) (fun G27 hn11z ho27 => ?_)
  have hn11 := hn11z
  have h1 := (ho27 _ (by omega)).trans h1
  have df0 := df0.kept (fun q g1 g2 => ho27 q (by omega))
  have sh1 := sh1.kept (fun q hq => ho27 q (by omega))
  have ch2 := ch2.kept (fun q g1 g2 => ho27 q (by omega))
  have tr3 := tr3.kept (fun q g1 g2 => ho27 q (by omega))
  have hn17 := (ho27 _ (by omega)).trans hn17
  have tr4 := tr4.kept (fun q g1 g2 => ho27 q (by omega))
  have tr5 := tr5.kept (fun q g1 g2 => ho27 q (by omega))
  have tr6 := tr6.kept (fun q g1 g2 => ho27 q (by omega))
  refine V_iincN d_HE_init_94 rfl ?_
  show pV Γ _ _ [some (.ref n), some (.int (nI 3))] _ _ _ _ _ _
  refine V_goto (tgt := 76) d_HE_init_97 (by decide) ?_
  refine V_iload_n d_HE_init_76 rfl ?_
  refine V_iconst (v := nI 3) d_HE_init_77 (by decide +kernel) ?_
  refine V_icmp_geN (tgt := 100) d_HE_init_78 (by decide) (by omega) (by omega) (fun _ => ?_) (fun h => absurd h (by omega))
  refine V_iconst (v := nI 0) d_HE_init_100 (by decide +kernel) ?_
  refine V_istore_n d_HE_init_101 (Nat.le_of_ble_eq_true rfl) ?_
  show pV Γ _ _ [some (.ref n), some (.int (nI 0))] _ _ _ _ _ _
  refine V_iload_n d_HE_init_102 rfl ?_
  refine V_iconst (v := nI 3) d_HE_init_103 (by decide +kernel) ?_
  refine V_icmp_geN (tgt := 126) d_HE_init_104 (by decide) (by omega) (by omega) (fun h => absurd h (by omega)) (fun _ => ?_)
  refine V_aload_n d_HE_init_107 rfl ?_
  refine V_getf d_HE_init_108 f_HE_50 h1 rfl ?_
  refine V_iload_n d_HE_init_111 rfl ?_
  refine V_new d_HE_init_112 n_HE_48 (by rfl) (by rfl) (fun G28 hn28 ho28 => ?_)
  have hn28 : G28 (n + 169) = some (.inr (kCl, [.null, .int 0, .int 0])) := hn28
  show pV Γ _ _ _ (.ref (n + 169) :: _) (n + 170) _ _ _ _
  have h1 := (ho28 _ (by omega)).trans h1
  have df0 := df0.kept (fun q g1 g2 => ho28 q (by omega))
  have sh1 := sh1.kept (fun q hq => ho28 q (by omega))
  have ch2 := ch2.kept (fun q g1 g2 => ho28 q (by omega))
  have hn11 := (ho28 _ (by omega)).trans hn11
  have tr3 := tr3.kept (fun q g1 g2 => ho28 q (by omega))
  have hn17 := (ho28 _ (by omega)).trans hn17
  have tr4 := tr4.kept (fun q g1 g2 => ho28 q (by omega))
  have tr5 := tr5.kept (fun q g1 g2 => ho28 q (by omega))
  have tr6 := tr6.kept (fun q g1 g2 => ho28 q (by omega))
  refine V_dup d_HE_init_115 rfl ?_
  refine V_callI (As := []) (rest := [.ref (n + 169), .int (nI 0), .ref (n + 63)]) (lo' := [some (.ref (n + 169)), none]) (bc1 := 16) (bs1 := 130) (bc' := 34) (bs' := 266) d_HE_init_116 k_HE_init_54 rfl rfl rfl rfl (by rfl) (by rfl) ?_
  refine c_Cl_init (fr := fr) hn28 (fun G29 cl7 ho29 => ?_)
  have h1 := (ho29 _ (by omega)).trans h1
  have df0 := df0.kept (fun q g1 g2 => ho29 q (by omega))
  have sh1 := sh1.kept (fun q hq => ho29 q (by omega))
  have ch2 := ch2.kept (fun q g1 g2 => ho29 q (by omega))
  have hn11 := (ho29 _ (by omega)).trans hn11
  have tr3 := tr3.kept (fun q g1 g2 => ho29 q (by omega))
  have hn17 := (ho29 _ (by omega)).trans hn17
  have tr4 := tr4.kept (fun q g1 g2 => ho29 q (by omega))
  have tr5 := tr5.kept (fun q g1 g2 => ho29 q (by omega))
  have tr6 := tr6.kept (fun q g1 g2 => ho29 q (by omega))
  show pV Γ m_HE_init 119 [some (.ref n), some (.int (nI 0))] [.ref (n + 169), .int (nI 0), .ref (n + 63)] (n + 186) G29 34 266 Q
  refine V_aastore (ci := 2) (j := 0) d_HE_init_119 rfl rfl hn17 cl7.2.1 rfl (by omega) (by omega) (fun G30 hn17z ho30 => ?_)
  have hn17 := hn17z
  have h1 := (ho30 _ (by omega)).trans h1
  have df0 := df0.kept (fun q g1 g2 => ho30 q (by omega))
  have sh1 := sh1.kept (fun q hq => ho30 q (by omega))
  have ch2 := ch2.kept (fun q g1 g2 => ho30 q (by omega))
  have hn11 := (ho30 _ (by omega)).trans hn11
  have tr3 := tr3.kept (fun q g1 g2 => ho30 q (by omega))
  have tr4 := tr4.kept (fun q g1 g2 => ho30 q (by omega))
  have tr5 := tr5.kept (fun q g1 g2 => ho30 q (by omega))
  have tr6 := tr6.kept (fun q g1 g2 => ho30 q (by omega))
  have cl7 := cl7.kept (fun q g1 g2 => ho30 q (by omega))
  refine V_iincN d_HE_init_120 rfl ?_
  show pV Γ _ _ [some (.ref n), some (.int (nI 1))] _ _ _ _ _ _
  refine V_goto (tgt := 102) d_HE_init_123 (by decide) ?_
  refine V_iload_n d_HE_init_102 rfl ?_
  refine V_iconst (v := nI 3) d_HE_init_103 (by decide +kernel) ?_
  refine V_icmp_geN (tgt := 126) d_HE_init_104 (by decide) (by omega) (by omega) (fun h => absurd h (by omega)) (fun _ => ?_)
  refine V_aload_n d_HE_init_107 rfl ?_
  refine V_getf d_HE_init_108 f_HE_50 h1 rfl ?_
  refine V_iload_n d_HE_init_111 rfl ?_
  refine V_new d_HE_init_112 n_HE_48 (by rfl) (by rfl) (fun G31 hn31 ho31 => ?_)
  have hn31 : G31 (n + 186) = some (.inr (kCl, [.null, .int 0, .int 0])) := hn31
  show pV Γ _ _ _ (.ref (n + 186) :: _) (n + 187) _ _ _ _
  have h1 := (ho31 _ (by omega)).trans h1
  have df0 := df0.kept (fun q g1 g2 => ho31 q (by omega))
  have sh1 := sh1.kept (fun q hq => ho31 q (by omega))
  have ch2 := ch2.kept (fun q g1 g2 => ho31 q (by omega))
  have hn11 := (ho31 _ (by omega)).trans hn11
  have tr3 := tr3.kept (fun q g1 g2 => ho31 q (by omega))
  have hn17 := (ho31 _ (by omega)).trans hn17
  have tr4 := tr4.kept (fun q g1 g2 => ho31 q (by omega))
  have tr5 := tr5.kept (fun q g1 g2 => ho31 q (by omega))
  have tr6 := tr6.kept (fun q g1 g2 => ho31 q (by omega))
  have cl7 := cl7.kept (fun q g1 g2 => ho31 q (by omega))
  refine V_dup d_HE_init_115 rfl ?_
  refine V_callI (As := []) (rest := [.ref (n + 186), .int (nI 1), .ref (n + 63)]) (lo' := [some (.ref (n + 186)), none]) (bc1 := 16) (bs1 := 130) (bc' := 17) (bs' := 133) d_HE_init_116 k_HE_init_54 rfl rfl rfl rfl (by rfl) (by rfl) ?_
  refine c_Cl_init (fr := fr) hn31 (fun G32 cl8 ho32 => ?_)
  have h1 := (ho32 _ (by omega)).trans h1
  have df0 := df0.kept (fun q g1 g2 => ho32 q (by omega))
  have sh1 := sh1.kept (fun q hq => ho32 q (by omega))
  have ch2 := ch2.kept (fun q g1 g2 => ho32 q (by omega))
  have hn11 := (ho32 _ (by omega)).trans hn11
  have tr3 := tr3.kept (fun q g1 g2 => ho32 q (by omega))
  have hn17 := (ho32 _ (by omega)).trans hn17
  have tr4 := tr4.kept (fun q g1 g2 => ho32 q (by omega))
  have tr5 := tr5.kept (fun q g1 g2 => ho32 q (by omega))
  have tr6 := tr6.kept (fun q g1 g2 => ho32 q (by omega))
  have cl7 := cl7.kept (fun q g1 g2 => ho32 q (by omega))
  show pV Γ m_HE_init 119 [some (.ref n), some (.int (nI 1))] [.ref (n + 186), .int (nI 1), .ref (n + 63)] (n + 203) G32 17 133 Q
  refine V_aastore (ci := 2) (j := 1) d_HE_init_119 rfl rfl hn17 cl8.2.1 rfl (by omega) (by omega) (fun G33 hn17z ho33 => ?_)
  have hn17 := hn17z
  have h1 := (ho33 _ (by omega)).trans h1
  have df0 := df0.kept (fun q g1 g2 => ho33 q (by omega))
  have sh1 := sh1.kept (fun q hq => ho33 q (by omega))
  have ch2 := ch2.kept (fun q g1 g2 => ho33 q (by omega))
  have hn11 := (ho33 _ (by omega)).trans hn11
  have tr3 := tr3.kept (fun q g1 g2 => ho33 q (by omega))
  have tr4 := tr4.kept (fun q g1 g2 => ho33 q (by omega))
  have tr5 := tr5.kept (fun q g1 g2 => ho33 q (by omega))
  have tr6 := tr6.kept (fun q g1 g2 => ho33 q (by omega))
  have cl7 := cl7.kept (fun q g1 g2 => ho33 q (by omega))
  have cl8 := cl8.kept (fun q g1 g2 => ho33 q (by omega))
  refine V_iincN d_HE_init_120 rfl ?_
  show pV Γ _ _ [some (.ref n), some (.int (nI 2))] _ _ _ _ _ _
  refine V_goto (tgt := 102) d_HE_init_123 (by decide) ?_
  refine V_iload_n d_HE_init_102 rfl ?_
  refine V_iconst (v := nI 3) d_HE_init_103 (by decide +kernel) ?_
  refine V_icmp_geN (tgt := 126) d_HE_init_104 (by decide) (by omega) (by omega) (fun h => absurd h (by omega)) (fun _ => ?_)
  refine V_aload_n d_HE_init_107 rfl ?_
  refine V_getf d_HE_init_108 f_HE_50 h1 rfl ?_
  refine V_iload_n d_HE_init_111 rfl ?_
  refine V_new d_HE_init_112 n_HE_48 (by rfl) (by rfl) (fun G34 hn34 ho34 => ?_)
  have hn34 : G34 (n + 203) = some (.inr (kCl, [.null, .int 0, .int 0])) := hn34
  show pV Γ _ _ _ (.ref (n + 203) :: _) (n + 204) _ _ _ _
  have h1 := (ho34 _ (by omega)).trans h1
  have df0 := df0.kept (fun q g1 g2 => ho34 q (by omega))
  have sh1 := sh1.kept (fun q hq => ho34 q (by omega))
  have ch2 := ch2.kept (fun q g1 g2 => ho34 q (by omega))
  have hn11 := (ho34 _ (by omega)).trans hn11
  have tr3 := tr3.kept (fun q g1 g2 => ho34 q (by omega))
  have hn17 := (ho34 _ (by omega)).trans hn17
  have tr4 := tr4.kept (fun q g1 g2 => ho34 q (by omega))
  have tr5 := tr5.kept (fun q g1 g2 => ho34 q (by omega))
  have tr6 := tr6.kept (fun q g1 g2 => ho34 q (by omega))
  have cl7 := cl7.kept (fun q g1 g2 => ho34 q (by omega))
  have cl8 := cl8.kept (fun q g1 g2 => ho34 q (by omega))
  refine V_dup d_HE_init_115 rfl ?_
  refine V_callI (As := []) (rest := [.ref (n + 203), .int (nI 2), .ref (n + 63)]) (lo' := [some (.ref (n + 203)), none]) (bc1 := 16) (bs1 := 130) (bc' := 0) (bs' := 0) d_HE_init_116 k_HE_init_54 rfl rfl rfl rfl (by rfl) (by rfl) ?_
  refine c_Cl_init (fr := fr) hn34 (fun G35 cl9 ho35 => ?_)
  have h1 := (ho35 _ (by omega)).trans h1
  have df0 := df0.kept (fun q g1 g2 => ho35 q (by omega))
  have sh1 := sh1.kept (fun q hq => ho35 q (by omega))
  have ch2 := ch2.kept (fun q g1 g2 => ho35 q (by omega))
  have hn11 := (ho35 _ (by omega)).trans hn11
  have tr3 := tr3.kept (fun q g1 g2 => ho35 q (by omega))
  have hn17 := (ho35 _ (by omega)).trans hn17
  have tr4 := tr4.kept (fun q g1 g2 => ho35 q (by omega))
  have tr5 := tr5.kept (fun q g1 g2 => ho35 q (by omega))
  have tr6 := tr6.kept (fun q g1 g2 => ho35 q (by omega))
  have cl7 := cl7.kept (fun q g1 g2 => ho35 q (by omega))
  have cl8 := cl8.kept (fun q g1 g2 => ho35 q (by omega))
  show pV Γ m_HE_init 119 [some (.ref n), some (.int (nI 2))] [.ref (n + 203), .int (nI 2), .ref (n + 63)] (n + 220) G35 0 0 Q
  refine V_aastore (ci := 2) (j := 2) d_HE_init_119 rfl rfl hn17 cl9.2.1 rfl (by omega) (by omega) (fun G36 hn17z ho36 => ?_)
  have hn17 := hn17z
  have h1 := (ho36 _ (by omega)).trans h1
  have df0 := df0.kept (fun q g1 g2 => ho36 q (by omega))
  have sh1 := sh1.kept (fun q hq => ho36 q (by omega))
  have ch2 := ch2.kept (fun q g1 g2 => ho36 q (by omega))
  have hn11 := (ho36 _ (by omega)).trans hn11
  have tr3 := tr3.kept (fun q g1 g2 => ho36 q (by omega))
  have tr4 := tr4.kept (fun q g1 g2 => ho36 q (by omega))
  have tr5 := tr5.kept (fun q g1 g2 => ho36 q (by omega))
  have tr6 := tr6.kept (fun q g1 g2 => ho36 q (by omega))
  have cl7 := cl7.kept (fun q g1 g2 => ho36 q (by omega))
  have cl8 := cl8.kept (fun q g1 g2 => ho36 q (by omega))
  have cl9 := cl9.kept (fun q g1 g2 => ho36 q (by omega))
  refine V_iincN d_HE_init_120 rfl ?_
  show pV Γ _ _ [some (.ref n), some (.int (nI 3))] _ _ _ _ _ _
  refine V_goto (tgt := 102) d_HE_init_123 (by decide) ?_
  refine V_iload_n d_HE_init_102 rfl ?_
  refine V_iconst (v := nI 3) d_HE_init_103 (by decide +kernel) ?_
  refine V_icmp_geN (tgt := 126) d_HE_init_104 (by decide) (by omega) (by omega) (fun _ => ?_) (fun h => absurd h (by omega))
  refine V_return d_HE_init_126 rfl (hQ G36 ⟨h1, df0, sh1.up (by omega), ch2, ⟨Nat.zero_le _, ⟨_, hn11, fun j hj => ?_⟩, fun j hj => ?_, fun j hj => absurd hj (Nat.not_lt_zero j)⟩, ⟨_, _, _, tr3⟩, ⟨⟨_, hn17, fun j hj => ?_⟩, fun j hj => ?_⟩, fun k hk => (by cases hk), fun k hk => Nat.zero_le _, by omega, hlo⟩ (fun q hq => by rw [ho36 q (by omega), ho35 q (by omega), ho34 q (by omega), ho33 q (by omega), ho32 q (by omega), ho31 q (by omega), ho30 q (by omega), ho29 q (by omega), ho28 q (by omega), ho27 q (by omega), ho26 q (by omega), ho25 q (by omega), ho24 q (by omega), ho23 q (by omega), ho22 q (by omega), ho21 q (by omega), ho20 q (by omega), ho19 q (by omega), ho18 q (by omega), ho17 q (by omega), ho16 q (by omega), ho15 q (by omega), ho14 q (by omega), ho13 q (by omega), ho12 q (by omega), ho11 q (by omega), ho10 q (by omega), ho9 q (by omega), ho8 q (by omega), ho7 q (by omega), ho6 q (by omega), ho5 q (by omega), ho4 q (by omega), ho3 q (by omega), ho2 q (by omega), ho1 q (by omega)]))
  · match j, hj with
    | 0, _ => rfl
    | 1, _ => rfl
    | 2, _ => rfl
    | k + 3, h => exact absurd h (by omega)
  · match j, hj with
    | 0, _ => exact ⟨_, _, _, tr4⟩
    | 1, _ => exact ⟨_, _, _, tr5⟩
    | 2, _ => exact ⟨_, _, _, tr6⟩
    | k + 3, h => exact absurd h (by omega)
  · match j, hj with
    | 0, _ => rfl
    | 1, _ => rfl
    | 2, _ => rfl
    | k + 3, h => exact absurd h (by omega)
  · match j, hj with
    | 0, _ => exact cl7
    | 1, _ => exact cl8
    | 2, _ => exact cl9
    | k + 3, h => exact absurd h (by omega)
