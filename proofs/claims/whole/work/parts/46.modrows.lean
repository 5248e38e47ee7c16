/-! The reference: rows in use, renew, kept. -/
def inFr (dp fr : Nat → Nat) (r : Nat) : Prop := ∃ t k, t < 3 ∧ k < dp t ∧ fr (5 * t + k) = r
def inUs (cu dp fr : Nat → Nat) (r : Nat) : Prop := inFr dp fr r ∨ ∃ c, c < 6 ∧ cu c = r
theorem noFull {cu dp fr : Nat → Nat} (hdp : ∀ t, t < 3 → dp t ≤ 5) : ¬ ∀ r, 17 ≤ r → r < 40 → inUs cu dp fr r := by
  intro h
  have hi : ∀ i, ∃ k, i ≤ 22 → k < 22 ∧ (if k < 6 then cu k else fr (k - 6)) = 17 + i := by
    intro i
    by_cases hle : i ≤ 22
    · rcases h (17 + i) (by omega) (by omega) with ⟨t, k, ht, hk, e⟩ | ⟨c, hc, e⟩
      · have := hdp t ht
        exact ⟨6 + (5 * t + k), fun _ => ⟨by omega, by rw [if_neg (by omega), show 6 + (5 * t + k) - 6 = 5 * t + k by omega]; exact e⟩⟩
      · exact ⟨c, fun _ => ⟨by omega, by rw [if_pos hc]; exact e⟩⟩
    · exact ⟨0, fun q => absurd q hle⟩
  obtain ⟨a, b, h1, h2, h3⟩ := pig 22 (fun i => Classical.choose (hi i)) (fun i hle => (Classical.choose_spec (hi i) hle).1)
  have ha := (Classical.choose_spec (hi a) (by omega)).2
  have hb := (Classical.choose_spec (hi b) h2).2
  rw [← h3] at hb
  rw [ha] at hb
  omega
noncomputable def rCnt (U : Nat → Prop) (co : Nat → Nat) (c : Nat) : Nat → Nat
  | 0 => 0
  | k + 1 => rCnt U co c k + pI (co (17 + k) = c ∧ U (17 + k)) 1 0
theorem rCnt_le (U : Nat → Prop) (co : Nat → Nat) (c k : Nat) : rCnt U co c k ≤ k := by
  induction k with
  | zero => exact Nat.le_refl _
  | succ k ih =>
    show rCnt U co c k + pI _ 1 0 ≤ k + 1
    by_cases h : co (17 + k) = c ∧ U (17 + k)
    · rw [pI_t h]; omega
    · rw [pI_f h]; omega
theorem ifr_n {dp fr : Nat → Nat} {r t k : Nat} (hk : k = dp t) : (∃ t' k', (t' < t ∧ k' < dp t' ∨ t' = t ∧ k' < k) ∧ fr (5 * t' + k') = r) ↔ ∃ t' k', (t' < t + 1 ∧ k' < dp t' ∨ t' = t + 1 ∧ k' < 0) ∧ fr (5 * t' + k') = r := by
  subst hk
  constructor
  · rintro ⟨t', k', h, e⟩
    refine ⟨t', k', ?_, e⟩
    rcases h with h | ⟨h1, h2⟩
    · exact Or.inl ⟨by omega, h.2⟩
    · subst h1; exact Or.inl ⟨by omega, h2⟩
  · rintro ⟨t', k', h, e⟩
    refine ⟨t', k', ?_, e⟩
    rcases h with ⟨h1, h2⟩ | ⟨_, h2⟩
    · by_cases q : t' = t
      · subst q; exact Or.inr ⟨rfl, h2⟩
      · exact Or.inl ⟨by omega, h2⟩
    · exact absurd h2 (by omega)
theorem ifr_e {dp fr : Nat → Nat} {r t : Nat} (ht : t = 3) : (∃ t' k', (t' < t ∧ k' < dp t' ∨ t' = t ∧ k' < 0) ∧ fr (5 * t' + k') = r) ↔ inFr dp fr r := by
  subst ht
  constructor
  · rintro ⟨t', k', h | h, e⟩
    · exact ⟨t', k', h.1, h.2, e⟩
    · exact absurd h.2 (by omega)
  · rintro ⟨t', k', h1, h2, e⟩
    exact ⟨t', k', Or.inl ⟨h1, h2⟩, e⟩
set_option maxHeartbeats 1000000 in
theorem c_Mo_inFrames {Γ : pmE} {G : pmG} {n : Nat} {Q : pmPost} {m : Nat} {ch ba : Int32} {dp : Nat → Nat} {fr : Nat → Nat} {r : Nat} (hH : G m = some (.inr (kMo, moFs m ch ba))) (hDp : G (m + 12) = some (.inl (0, 3, .inl (fun j => nI (dp j))))) (hFr : G (m + 13) = some (.inl (0, 15, .inl (fun j => nI (fr j))))) (hr : r < 41) (hdp : ∀ t, t < 3 → dp t ≤ 5) (hfr : ∀ q, q < 15 → fr q < 41) (hQ : Q (some (.int (pB (inFr dp fr r)))) n G) : pV Γ m_Mo_inFrames 0 [some (.ref m), some (.int (nI r)), none, none, none] [] n G 0 0 Q := by
  have loop : ∀ (d t : Nat), t ≤ 3 → 3 - t < d → ∀ (x2 : Int32) (w4 : Option Value), x2 = pB (∃ t' k', (t' < t ∧ k' < dp t' ∨ t' = t ∧ k' < 0) ∧ fr (5 * t' + k') = r) → pV Γ m_Mo_inFrames 4 [some (.ref m), some (.int (nI r)), some (.int x2), some (.int (nI t)), w4] [] n G 0 0 Q := by
    intro d
    induction d with
    | zero => intro t _ hd; exact absurd hd (by omega)
    | succ d ih =>
      intro t hi hd x2 w4 h2
      subst h2
      refine V_iload_n d_Mo_inFrames_4 rfl ?_
      refine V_iconst (v := nI 3) d_Mo_inFrames_5 (by decide +kernel) ?_
      refine V_icmp_geN (tgt := 60) d_Mo_inFrames_6 (by decide) (by omega) (by omega) (fun hb6 => ?_) (fun hb6 => ?_)
      · refine V_iload_n d_Mo_inFrames_60 rfl ?_
        exact V_zreturn d_Mo_inFrames_61 rfl (by first | exact pB_or _ | exact Or.inl rfl | exact Or.inr rfl) (by rw [pB_c (ifr_e (by omega))]; exact hQ)
      · refine V_iconst (v := nI 0) d_Mo_inFrames_9 (by decide +kernel) ?_
        refine V_istore d_Mo_inFrames_10 (Nat.le_of_ble_eq_true rfl) ?_
        show pV Γ _ _ [some (.ref m), some (.int (nI r)), some (.int (pB (∃ t' k', (t' < t ∧ k' < dp t' ∨ t' = t ∧ k' < 0) ∧ fr (5 * t' + k') = r))), some (.int (nI t)), some (.int (nI 0))] _ _ _ _ _ _
        have hd5 := hdp t (by omega)
        have inner : ∀ (d2 k : Nat), k ≤ dp t → dp t - k < d2 → ∀ x2 : Int32, x2 = pB (∃ t' k', (t' < t ∧ k' < dp t' ∨ t' = t ∧ k' < k) ∧ fr (5 * t' + k') = r) → pV Γ m_Mo_inFrames 12 [some (.ref m), some (.int (nI r)), some (.int x2), some (.int (nI t)), some (.int (nI k))] [] n G 0 0 Q := by
          intro d2
          induction d2 with
          | zero => intro k _ hd2; exact absurd hd2 (by omega)
          | succ d2 ih2 =>
            intro k hj hd2 x2 h2
            subst h2
            refine V_iload d_Mo_inFrames_12 rfl ?_
            refine V_aload_n d_Mo_inFrames_14 rfl ?_
            refine V_getf d_Mo_inFrames_15 f_Mo_48 hH rfl ?_
            refine V_iload_n d_Mo_inFrames_18 rfl ?_
            refine V_iaload (j := t) d_Mo_inFrames_19 rfl hDp rfl (by omega) (by omega) ?_
            show pV Γ _ _ _ (.int (nI (dp t)) :: _) _ _ _ _ _
            refine V_icmp_geN (tgt := 54) d_Mo_inFrames_20 (by decide) (by omega) (by omega) (fun hb20 => ?_) (fun hb20 => ?_)
            · refine V_iincN d_Mo_inFrames_54 rfl ?_
              show pV Γ _ _ [some (.ref m), some (.int (nI r)), some (.int (pB (∃ t' k', (t' < t ∧ k' < dp t' ∨ t' = t ∧ k' < k) ∧ fr (5 * t' + k') = r))), some (.int (nI (t + 1))), some (.int (nI k))] _ _ _ _ _ _
              refine V_goto (tgt := 4) d_Mo_inFrames_57 (by decide) ?_
              exact ih (t + 1) (by omega) (by omega) _ _ (pB_c (ifr_n (by omega)))
            · refine V_iload_n d_Mo_inFrames_23 rfl ?_
              refine V_if_neB (tgt := 42) d_Mo_inFrames_24 (by decide) (fun hb24 => ?_) (fun hb24 => ?_)
              · refine V_iconst (v := nI 1) d_Mo_inFrames_42 (by decide +kernel) ?_
                refine V_goto (tgt := 47) d_Mo_inFrames_43 (by decide) ?_
                refine V_istore_n d_Mo_inFrames_47 (Nat.le_of_ble_eq_true rfl) ?_
                show pV Γ _ _ [some (.ref m), some (.int (nI r)), some (.int (nI 1)), some (.int (nI t)), some (.int (nI k))] _ _ _ _ _ _
                refine V_iincN d_Mo_inFrames_48 rfl ?_
                show pV Γ _ _ [some (.ref m), some (.int (nI r)), some (.int (nI 1)), some (.int (nI t)), some (.int (nI (k + 1)))] _ _ _ _ _ _
                refine V_goto (tgt := 12) d_Mo_inFrames_51 (by decide) ?_
                exact ih2 (k + 1) (by omega) (by omega) _ (pB_t (p := ∃ t' k', (t' < t ∧ k' < dp t' ∨ t' = t ∧ k' < k + 1) ∧ fr (5 * t' + k') = r) (by first | exact hb24.elim (fun t' h => h.elim (fun k' h => ⟨t', k', by omega, h.2⟩)) | exact ⟨t, k, by omega, hb39⟩)).symm
              · refine V_aload_n d_Mo_inFrames_27 rfl ?_
                refine V_getf d_Mo_inFrames_28 f_Mo_51 hH rfl ?_
                refine V_iconst (v := nI 5) d_Mo_inFrames_31 (by decide +kernel) ?_
                refine V_iload_n d_Mo_inFrames_32 rfl ?_
                refine V_imulN d_Mo_inFrames_33 ?_
                refine V_iload d_Mo_inFrames_34 rfl ?_
                refine V_iaddN d_Mo_inFrames_36 ?_
                refine V_iaload (j := 5 * t + k) d_Mo_inFrames_37 rfl hFr rfl (by omega) (by omega) ?_
                show pV Γ _ _ _ (.int (nI (fr (5 * t + k))) :: _) _ _ _ _ _
                refine V_iload_n d_Mo_inFrames_38 rfl ?_
                refine V_icmp_neN (tgt := 46) d_Mo_inFrames_39 (by decide) (by have := hfr (5 * t + k) (by omega); omega) (by omega) (fun hb39 => ?_) (fun hb39 => ?_)
                · refine V_iconst (v := nI 0) d_Mo_inFrames_46 (by decide +kernel) ?_
                  refine V_istore_n d_Mo_inFrames_47 (Nat.le_of_ble_eq_true rfl) ?_
                  show pV Γ _ _ [some (.ref m), some (.int (nI r)), some (.int (nI 0)), some (.int (nI t)), some (.int (nI k))] _ _ _ _ _ _
                  refine V_iincN d_Mo_inFrames_48 rfl ?_
                  show pV Γ _ _ [some (.ref m), some (.int (nI r)), some (.int (nI 0)), some (.int (nI t)), some (.int (nI (k + 1)))] _ _ _ _ _ _
                  refine V_goto (tgt := 12) d_Mo_inFrames_51 (by decide) ?_
                  exact ih2 (k + 1) (by omega) (by omega) _ (pB_f (p := ∃ t' k', (t' < t ∧ k' < dp t' ∨ t' = t ∧ k' < k + 1) ∧ fr (5 * t' + k') = r) (fun ⟨t', k', h, e⟩ => by by_cases q : t' = t ∧ k' = k; (· rw [q.1, q.2] at e; exact hb39 e); (· exact hb24 ⟨t', k', by omega, e⟩))).symm
                · refine V_iconst (v := nI 1) d_Mo_inFrames_42 (by decide +kernel) ?_
                  refine V_goto (tgt := 47) d_Mo_inFrames_43 (by decide) ?_
                  refine V_istore_n d_Mo_inFrames_47 (Nat.le_of_ble_eq_true rfl) ?_
                  show pV Γ _ _ [some (.ref m), some (.int (nI r)), some (.int (nI 1)), some (.int (nI t)), some (.int (nI k))] _ _ _ _ _ _
                  refine V_iincN d_Mo_inFrames_48 rfl ?_
                  show pV Γ _ _ [some (.ref m), some (.int (nI r)), some (.int (nI 1)), some (.int (nI t)), some (.int (nI (k + 1)))] _ _ _ _ _ _
                  refine V_goto (tgt := 12) d_Mo_inFrames_51 (by decide) ?_
                  exact ih2 (k + 1) (by omega) (by omega) _ (pB_t (p := ∃ t' k', (t' < t ∧ k' < dp t' ∨ t' = t ∧ k' < k + 1) ∧ fr (5 * t' + k') = r) (by first | exact hb24.elim (fun t' h => h.elim (fun k' h => ⟨t', k', by omega, h.2⟩)) | exact ⟨t, k, by omega, hb39⟩)).symm
        exact inner (dp t + 1) 0 (by omega) (by omega) _ rfl
  refine V_iconst (v := nI 0) d_Mo_inFrames_0 (by decide +kernel) ?_
  refine V_istore_n d_Mo_inFrames_1 (Nat.le_of_ble_eq_true rfl) ?_
  show pV Γ _ _ [some (.ref m), some (.int (nI r)), some (.int (nI 0)), none, none] _ _ _ _ _ _
  refine V_iconst (v := nI 0) d_Mo_inFrames_2 (by decide +kernel) ?_
  refine V_istore_n d_Mo_inFrames_3 (Nat.le_of_ble_eq_true rfl) ?_
  show pV Γ _ _ [some (.ref m), some (.int (nI r)), some (.int (nI 0)), some (.int (nI 0)), none] _ _ _ _ _ _
  exact loop 4 0 (by omega) (by omega) _ _ (pB_f (fun ⟨t', k', h, _⟩ => by omega)).symm
set_option maxHeartbeats 1000000 in
theorem c_Mo_inUse {Γ : pmE} {G : pmG} {n : Nat} {Q : pmPost} {m : Nat} {ch ba : Int32} {cu : Nat → Nat} {dp : Nat → Nat} {fr : Nat → Nat} {r : Nat} (hH : G m = some (.inr (kMo, moFs m ch ba))) (hCu : G (m + 2) = some (.inl (0, 6, .inl (fun j => nI (cu j))))) (hDp : G (m + 12) = some (.inl (0, 3, .inl (fun j => nI (dp j))))) (hFr : G (m + 13) = some (.inl (0, 15, .inl (fun j => nI (fr j))))) (hcu : ∀ c, c < 6 → cu c < 41) (hdp : ∀ t, t < 3 → dp t ≤ 5) (hfr : ∀ q, q < 15 → fr q < 41) (hr : r < 41) (hQ : Q (some (.int (pB (inUs cu dp fr r)))) n G) : pV Γ m_Mo_inUse 0 [some (.ref m), some (.int (nI r)), none, none] [] n G 0 0 Q := by
  have loop : ∀ (d i : Nat), i ≤ 6 → 6 - i < d → ∀ x2 : Int32, x2 = pB (inFr dp fr r ∨ ∃ c, c < i ∧ cu c = r) → pV Γ m_Mo_inUse 8 [some (.ref m), some (.int (nI r)), some (.int x2), some (.int (nI i))] [] n G 0 0 Q := by
    intro d
    induction d with
    | zero => intro i _ hd; exact absurd hd (by omega)
    | succ d ih =>
      intro i hi hd x2 h2
      subst h2
      refine V_iload_n d_Mo_inUse_8 rfl ?_
      refine V_bipush (v := nI 6) d_Mo_inUse_9 (by decide +kernel) ?_
      refine V_icmp_geN (tgt := 40) d_Mo_inUse_11 (by decide) (by omega) (by omega) (fun hb11 => ?_) (fun hb11 => ?_)
      · refine V_iload_n d_Mo_inUse_40 rfl ?_
        exact V_zreturn d_Mo_inUse_41 rfl (by first | exact pB_or _ | exact Or.inl rfl | exact Or.inr rfl) (by rw [show i = 6 by omega]; exact hQ)
      · refine V_iload_n d_Mo_inUse_14 rfl ?_
        refine V_if_neB (tgt := 28) d_Mo_inUse_15 (by decide) (fun hb15 => ?_) (fun hb15 => ?_)
        · refine V_iconst (v := nI 1) d_Mo_inUse_28 (by decide +kernel) ?_
          refine V_goto (tgt := 33) d_Mo_inUse_29 (by decide) ?_
          refine V_istore_n d_Mo_inUse_33 (Nat.le_of_ble_eq_true rfl) ?_
          show pV Γ _ _ [some (.ref m), some (.int (nI r)), some (.int (nI 1)), some (.int (nI i))] _ _ _ _ _ _
          refine V_iincN d_Mo_inUse_34 rfl ?_
          show pV Γ _ _ [some (.ref m), some (.int (nI r)), some (.int (nI 1)), some (.int (nI (i + 1)))] _ _ _ _ _ _
          refine V_goto (tgt := 8) d_Mo_inUse_37 (by decide) ?_
          exact ih (i + 1) (by omega) (by omega) _ (pB_t (p := inFr dp fr r ∨ ∃ c, c < i + 1 ∧ cu c = r) (by first | exact hb15.elim Or.inl (fun ⟨c, hc, e⟩ => Or.inr ⟨c, by omega, e⟩) | exact Or.inr ⟨i, by omega, hb25⟩)).symm
        · refine V_aload_n d_Mo_inUse_18 rfl ?_
          refine V_getf d_Mo_inUse_19 f_Mo_17 hH rfl ?_
          refine V_iload_n d_Mo_inUse_22 rfl ?_
          refine V_iaload (j := i) d_Mo_inUse_23 rfl hCu rfl (by omega) (by omega) ?_
          show pV Γ _ _ _ (.int (nI (cu i)) :: _) _ _ _ _ _
          refine V_iload_n d_Mo_inUse_24 rfl ?_
          refine V_icmp_neN (tgt := 32) d_Mo_inUse_25 (by decide) (by have := hcu i (by omega); omega) (by omega) (fun hb25 => ?_) (fun hb25 => ?_)
          · refine V_iconst (v := nI 0) d_Mo_inUse_32 (by decide +kernel) ?_
            refine V_istore_n d_Mo_inUse_33 (Nat.le_of_ble_eq_true rfl) ?_
            show pV Γ _ _ [some (.ref m), some (.int (nI r)), some (.int (nI 0)), some (.int (nI i))] _ _ _ _ _ _
            refine V_iincN d_Mo_inUse_34 rfl ?_
            show pV Γ _ _ [some (.ref m), some (.int (nI r)), some (.int (nI 0)), some (.int (nI (i + 1)))] _ _ _ _ _ _
            refine V_goto (tgt := 8) d_Mo_inUse_37 (by decide) ?_
            exact ih (i + 1) (by omega) (by omega) _ (pB_f (p := inFr dp fr r ∨ ∃ c, c < i + 1 ∧ cu c = r) (fun e => e.elim (fun e => hb15 (Or.inl e)) (fun ⟨c, hc, e⟩ => (Nat.lt_or_ge c i).elim (fun q => hb15 (Or.inr ⟨c, q, e⟩)) (fun q => hb25 (by rw [show i = c by omega]; exact e))))).symm
          · refine V_iconst (v := nI 1) d_Mo_inUse_28 (by decide +kernel) ?_
            refine V_goto (tgt := 33) d_Mo_inUse_29 (by decide) ?_
            refine V_istore_n d_Mo_inUse_33 (Nat.le_of_ble_eq_true rfl) ?_
            show pV Γ _ _ [some (.ref m), some (.int (nI r)), some (.int (nI 1)), some (.int (nI i))] _ _ _ _ _ _
            refine V_iincN d_Mo_inUse_34 rfl ?_
            show pV Γ _ _ [some (.ref m), some (.int (nI r)), some (.int (nI 1)), some (.int (nI (i + 1)))] _ _ _ _ _ _
            refine V_goto (tgt := 8) d_Mo_inUse_37 (by decide) ?_
            exact ih (i + 1) (by omega) (by omega) _ (pB_t (p := inFr dp fr r ∨ ∃ c, c < i + 1 ∧ cu c = r) (by first | exact hb15.elim Or.inl (fun ⟨c, hc, e⟩ => Or.inr ⟨c, by omega, e⟩) | exact Or.inr ⟨i, by omega, hb25⟩)).symm
  refine V_aload_n d_Mo_inUse_0 rfl ?_
  refine V_iload_n d_Mo_inUse_1 rfl ?_
  refine V_callV (As := [.int (nI r)]) (rest := []) (lo' := [some (.ref m), some (.int (nI r)), none, none, none]) (bc1 := 0) (bs1 := 0) (bc' := 0) (bs' := 0) d_Mo_inUse_2 k_Mo_inUse_128 hH rfl rfl rfl rfl (by rfl) (by rfl) ?_
  refine c_Mo_inFrames hH hDp hFr hr hdp hfr ?_
  show pV Γ m_Mo_inUse 5 [some (.ref m), some (.int (nI r)), none, none] [.int (pB (inFr dp fr r))] _ G 0 0 Q
  refine V_istore_n d_Mo_inUse_5 (Nat.le_of_ble_eq_true rfl) ?_
  show pV Γ _ _ [some (.ref m), some (.int (nI r)), some (.int (pB (inFr dp fr r))), none] _ _ _ _ _ _
  refine V_iconst (v := nI 0) d_Mo_inUse_6 (by decide +kernel) ?_
  refine V_istore_n d_Mo_inUse_7 (Nat.le_of_ble_eq_true rfl) ?_
  show pV Γ _ _ [some (.ref m), some (.int (nI r)), some (.int (pB (inFr dp fr r))), some (.int (nI 0))] _ _ _ _ _ _
  exact loop 7 0 (by omega) (by omega) _ (pB_c ⟨Or.inl, fun e => e.elim id (fun ⟨c, hc, _⟩ => absurd hc (by omega))⟩)
set_option maxHeartbeats 1000000 in
theorem c_Mo_renew {Γ : pmE} {G : pmG} {n : Nat} {Q : pmPost} {m : Nat} {ch ba : Int32} {f : Nat → Int32} {cu : Nat → Nat} {nu : Nat → Nat} {no : Nat → Nat} {co : Nat → Nat} {dp : Nat → Nat} {fr : Nat → Nat} {c s : Nat} (hH : G m = some (.inr (kMo, moFs m ch ba))) (hF : G (m + 1) = some (.inl (0, 4387, .inl f))) (hCu : G (m + 2) = some (.inl (0, 6, .inl (fun j => nI (cu j))))) (hNu : G (m + 3) = some (.inl (0, 6, .inl (fun j => nI (nu j))))) (hNo : G (m + 4) = some (.inl (0, 41, .inl (fun j => nI (no j))))) (hCo : G (m + 5) = some (.inl (0, 41, .inl (fun j => nI (co j))))) (hDp : G (m + 12) = some (.inl (0, 3, .inl (fun j => nI (dp j))))) (hFr : G (m + 13) = some (.inl (0, 15, .inl (fun j => nI (fr j))))) (hcu : ∀ c, c < 6 → cu c < 41) (hdp : ∀ t, t < 3 → dp t ≤ 5) (hfr : ∀ q, q < 15 → fr q < 41) (hc : c < 6) (hs : s < 17) (hQ : ∀ G' g r, 17 ≤ r → r < 41 → ¬ inUs cu dp fr r → G' (m + 1) = some (.inl (0, 4387, .inl g)) → (∀ k, k < 107 → g (107 * r + k) = f (107 * s + k)) → (∀ x, (x < 107 * r ∨ 107 * r + 107 ≤ x) → g x = f x) → G' (m + 2) = some (.inl (0, 6, .inl (fun j => nI (va_up cu c r j)))) → G' (m + 3) = some (.inl (0, 6, .inl (fun j => nI (va_up nu c (nu c + 1) j)))) → G' (m + 4) = some (.inl (0, 41, .inl (fun j => nI (va_up no r (nu c + 1) j)))) → G' (m + 5) = some (.inl (0, 41, .inl (fun j => nI (va_up co r c j)))) → (∀ q, (q < m + 1 ∨ m + 6 ≤ q) → G' q = G q) → Q none n G') : pV Γ m_Mo_renew 0 [some (.ref m), some (.int (nI c)), some (.int (nI s)), none] [] n G 0 0 Q := by
  have loop : ∀ (d r : Nat), r ≤ 40 → 40 - r < d → (∀ q, 17 ≤ q → q < r → inUs cu dp fr q) → 17 ≤ r → pV Γ m_Mo_renew 3 [some (.ref m), some (.int (nI c)), some (.int (nI s)), some (.int (nI r))] [] n G 0 0 Q := by
    intro d
    induction d with
    | zero => intro r _ hd; exact absurd hd (by omega)
    | succ d ih =>
      intro r hi hd hv h17
      refine V_iload_n d_Mo_renew_3 rfl ?_
      refine V_bipush (v := nI 40) d_Mo_renew_4 (by decide +kernel) ?_
      refine V_icmp_geN (tgt := 23) d_Mo_renew_6 (by decide) (by omega) (by omega) (fun hb6 => ?_) (fun hb6 => ?_)
      · have hfree : ¬ inUs cu dp fr r := by
          first
            | exact hb14
            | exact fun _ => noFull hdp (fun q q1 q2 => hv q q1 (by omega))
        refine V_aload_n d_Mo_renew_23 rfl ?_
        refine V_iload_n d_Mo_renew_24 rfl ?_
        refine V_iload_n d_Mo_renew_25 rfl ?_
        refine V_callV (As := [.int (nI s), .int (nI r)]) (rest := []) (lo' := [some (.ref m), some (.int (nI s)), some (.int (nI r)), none]) (bc1 := 0) (bs1 := 0) (bc' := 0) (bs' := 0) d_Mo_renew_26 k_Mo_renew_81 hH rfl rfl rfl rfl (by rfl) (by rfl) ?_
        refine c_Mo_transcribe hH hF (by omega) (by omega) (by omega) (fun G1 g hF1 hc1 hx1 ho1 => ?_)
        have hF := hF1
        have hH := (ho1 _ (by omega)).trans hH
        have hCu := (ho1 _ (by omega)).trans hCu
        have hNu := (ho1 _ (by omega)).trans hNu
        have hNo := (ho1 _ (by omega)).trans hNo
        have hCo := (ho1 _ (by omega)).trans hCo
        show pV Γ m_Mo_renew 29 [some (.ref m), some (.int (nI c)), some (.int (nI s)), some (.int (nI r))] [] _ G1 0 0 Q
        refine V_aload_n d_Mo_renew_29 rfl ?_
        refine V_getf d_Mo_renew_30 f_Mo_17 hH rfl ?_
        refine V_iload_n d_Mo_renew_33 rfl ?_
        refine V_iload_n d_Mo_renew_34 rfl ?_
        refine V_iastore (j := c) d_Mo_renew_35 rfl hCu rfl (by omega) (by omega) (fun G2 hCuz ho2 => ?_)
        have hCu : G2 (m + 2) = some (.inl (0, 6, .inl (fun j => nI ((va_up cu c r) j)))) := by rw [hCuz, upd_nI]
        have hH := (ho2 _ (by omega)).trans hH
        have hF := (ho2 _ (by omega)).trans hF
        have hNu := (ho2 _ (by omega)).trans hNu
        have hNo := (ho2 _ (by omega)).trans hNo
        have hCo := (ho2 _ (by omega)).trans hCo
        refine V_aload_n d_Mo_renew_36 rfl ?_
        refine V_getf d_Mo_renew_37 f_Mo_20 hH rfl ?_
        refine V_iload_n d_Mo_renew_40 rfl ?_
        refine V_dup2 d_Mo_renew_41 rfl rfl ?_
        refine V_iaload (j := c) d_Mo_renew_42 rfl hNu rfl (by omega) (by omega) ?_
        show pV Γ _ _ _ (.int (nI (nu c)) :: _) _ _ _ _ _
        refine V_iconst (v := nI 1) d_Mo_renew_43 (by decide +kernel) ?_
        refine V_iaddN d_Mo_renew_44 ?_
        refine V_iastore (j := c) d_Mo_renew_45 rfl hNu rfl (by omega) (by omega) (fun G3 hNuz ho3 => ?_)
        have hNu : G3 (m + 3) = some (.inl (0, 6, .inl (fun j => nI ((va_up nu c (nu c + 1)) j)))) := by rw [hNuz, upd_nI]
        have hH := (ho3 _ (by omega)).trans hH
        have hF := (ho3 _ (by omega)).trans hF
        have hCu := (ho3 _ (by omega)).trans hCu
        have hNo := (ho3 _ (by omega)).trans hNo
        have hCo := (ho3 _ (by omega)).trans hCo
        refine V_aload_n d_Mo_renew_46 rfl ?_
        refine V_getf d_Mo_renew_47 f_Mo_23 hH rfl ?_
        refine V_iload_n d_Mo_renew_50 rfl ?_
        refine V_aload_n d_Mo_renew_51 rfl ?_
        refine V_getf d_Mo_renew_52 f_Mo_20 hH rfl ?_
        refine V_iload_n d_Mo_renew_55 rfl ?_
        refine V_iaload (j := c) d_Mo_renew_56 rfl hNu rfl (by omega) (by omega) ?_
        show pV Γ _ _ _ (.int (nI ((va_up nu c (nu c + 1)) c)) :: _) _ _ _ _ _
        refine V_iastore (j := r) d_Mo_renew_57 rfl hNo rfl (by omega) (by omega) (fun G4 hNoz ho4 => ?_)
        have hNo : G4 (m + 4) = some (.inl (0, 41, .inl (fun j => nI ((va_up no r ((va_up nu c (nu c + 1)) c)) j)))) := by rw [hNoz, upd_nI]
        have hH := (ho4 _ (by omega)).trans hH
        have hF := (ho4 _ (by omega)).trans hF
        have hCu := (ho4 _ (by omega)).trans hCu
        have hNu := (ho4 _ (by omega)).trans hNu
        have hCo := (ho4 _ (by omega)).trans hCo
        refine V_aload_n d_Mo_renew_58 rfl ?_
        refine V_getf d_Mo_renew_59 f_Mo_26 hH rfl ?_
        refine V_iload_n d_Mo_renew_62 rfl ?_
        refine V_iload_n d_Mo_renew_63 rfl ?_
        refine V_iastore (j := r) d_Mo_renew_64 rfl hCo rfl (by omega) (by omega) (fun G5 hCoz ho5 => ?_)
        have hCo : G5 (m + 5) = some (.inl (0, 41, .inl (fun j => nI ((va_up co r c) j)))) := by rw [hCoz, upd_nI]
        have hH := (ho5 _ (by omega)).trans hH
        have hF := (ho5 _ (by omega)).trans hF
        have hCu := (ho5 _ (by omega)).trans hCu
        have hNu := (ho5 _ (by omega)).trans hNu
        have hNo := (ho5 _ (by omega)).trans hNo
        exact V_return d_Mo_renew_65 rfl (hQ G5 g r (by omega) (by omega) hfree hF hc1 hx1 hCu hNu (by rw [va_up_self] at hNo; exact hNo) hCo (fun q hq => by rw [ho5 q (by omega), ho4 q (by omega), ho3 q (by omega), ho2 q (by omega), ho1 q (by omega)]))
      · refine V_aload_n d_Mo_renew_9 rfl ?_
        refine V_iload_n d_Mo_renew_10 rfl ?_
        refine V_callV (As := [.int (nI r)]) (rest := []) (lo' := [some (.ref m), some (.int (nI r)), none, none]) (bc1 := 0) (bs1 := 0) (bc' := 0) (bs' := 0) d_Mo_renew_11 k_Mo_renew_131 hH rfl rfl rfl rfl (by rfl) (by rfl) ?_
        refine c_Mo_inUse hH hCu hDp hFr hcu hdp hfr (by omega) ?_
        show pV Γ m_Mo_renew 14 [some (.ref m), some (.int (nI c)), some (.int (nI s)), some (.int (nI r))] [.int (pB (inUs cu dp fr r))] _ G 0 0 Q
        refine V_if_eqB (tgt := 23) d_Mo_renew_14 (by decide) (fun hb14 => ?_) (fun hb14 => ?_)
        · have hfree : ¬ inUs cu dp fr r := by
            first
              | exact hb14
              | exact fun _ => noFull hdp (fun q q1 q2 => hv q q1 (by omega))
          refine V_aload_n d_Mo_renew_23 rfl ?_
          refine V_iload_n d_Mo_renew_24 rfl ?_
          refine V_iload_n d_Mo_renew_25 rfl ?_
          refine V_callV (As := [.int (nI s), .int (nI r)]) (rest := []) (lo' := [some (.ref m), some (.int (nI s)), some (.int (nI r)), none]) (bc1 := 0) (bs1 := 0) (bc' := 0) (bs' := 0) d_Mo_renew_26 k_Mo_renew_81 hH rfl rfl rfl rfl (by rfl) (by rfl) ?_
          refine c_Mo_transcribe hH hF (by omega) (by omega) (by omega) (fun G1 g hF1 hc1 hx1 ho1 => ?_)
          have hF := hF1
          have hH := (ho1 _ (by omega)).trans hH
          have hCu := (ho1 _ (by omega)).trans hCu
          have hNu := (ho1 _ (by omega)).trans hNu
          have hNo := (ho1 _ (by omega)).trans hNo
          have hCo := (ho1 _ (by omega)).trans hCo
          show pV Γ m_Mo_renew 29 [some (.ref m), some (.int (nI c)), some (.int (nI s)), some (.int (nI r))] [] _ G1 0 0 Q
          refine V_aload_n d_Mo_renew_29 rfl ?_
          refine V_getf d_Mo_renew_30 f_Mo_17 hH rfl ?_
          refine V_iload_n d_Mo_renew_33 rfl ?_
          refine V_iload_n d_Mo_renew_34 rfl ?_
          refine V_iastore (j := c) d_Mo_renew_35 rfl hCu rfl (by omega) (by omega) (fun G2 hCuz ho2 => ?_)
          have hCu : G2 (m + 2) = some (.inl (0, 6, .inl (fun j => nI ((va_up cu c r) j)))) := by rw [hCuz, upd_nI]
          have hH := (ho2 _ (by omega)).trans hH
          have hF := (ho2 _ (by omega)).trans hF
          have hNu := (ho2 _ (by omega)).trans hNu
          have hNo := (ho2 _ (by omega)).trans hNo
          have hCo := (ho2 _ (by omega)).trans hCo
          refine V_aload_n d_Mo_renew_36 rfl ?_
          refine V_getf d_Mo_renew_37 f_Mo_20 hH rfl ?_
          refine V_iload_n d_Mo_renew_40 rfl ?_
          refine V_dup2 d_Mo_renew_41 rfl rfl ?_
          refine V_iaload (j := c) d_Mo_renew_42 rfl hNu rfl (by omega) (by omega) ?_
          show pV Γ _ _ _ (.int (nI (nu c)) :: _) _ _ _ _ _
          refine V_iconst (v := nI 1) d_Mo_renew_43 (by decide +kernel) ?_
          refine V_iaddN d_Mo_renew_44 ?_
          refine V_iastore (j := c) d_Mo_renew_45 rfl hNu rfl (by omega) (by omega) (fun G3 hNuz ho3 => ?_)
          have hNu : G3 (m + 3) = some (.inl (0, 6, .inl (fun j => nI ((va_up nu c (nu c + 1)) j)))) := by rw [hNuz, upd_nI]
          have hH := (ho3 _ (by omega)).trans hH
          have hF := (ho3 _ (by omega)).trans hF
          have hCu := (ho3 _ (by omega)).trans hCu
          have hNo := (ho3 _ (by omega)).trans hNo
          have hCo := (ho3 _ (by omega)).trans hCo
          refine V_aload_n d_Mo_renew_46 rfl ?_
          refine V_getf d_Mo_renew_47 f_Mo_23 hH rfl ?_
          refine V_iload_n d_Mo_renew_50 rfl ?_
          refine V_aload_n d_Mo_renew_51 rfl ?_
          refine V_getf d_Mo_renew_52 f_Mo_20 hH rfl ?_
          refine V_iload_n d_Mo_renew_55 rfl ?_
          refine V_iaload (j := c) d_Mo_renew_56 rfl hNu rfl (by omega) (by omega) ?_
          show pV Γ _ _ _ (.int (nI ((va_up nu c (nu c + 1)) c)) :: _) _ _ _ _ _
          refine V_iastore (j := r) d_Mo_renew_57 rfl hNo rfl (by omega) (by omega) (fun G4 hNoz ho4 => ?_)
          have hNo : G4 (m + 4) = some (.inl (0, 41, .inl (fun j => nI ((va_up no r ((va_up nu c (nu c + 1)) c)) j)))) := by rw [hNoz, upd_nI]
          have hH := (ho4 _ (by omega)).trans hH
          have hF := (ho4 _ (by omega)).trans hF
          have hCu := (ho4 _ (by omega)).trans hCu
          have hNu := (ho4 _ (by omega)).trans hNu
          have hCo := (ho4 _ (by omega)).trans hCo
          refine V_aload_n d_Mo_renew_58 rfl ?_
          refine V_getf d_Mo_renew_59 f_Mo_26 hH rfl ?_
          refine V_iload_n d_Mo_renew_62 rfl ?_
          refine V_iload_n d_Mo_renew_63 rfl ?_
          refine V_iastore (j := r) d_Mo_renew_64 rfl hCo rfl (by omega) (by omega) (fun G5 hCoz ho5 => ?_)
          have hCo : G5 (m + 5) = some (.inl (0, 41, .inl (fun j => nI ((va_up co r c) j)))) := by rw [hCoz, upd_nI]
          have hH := (ho5 _ (by omega)).trans hH
          have hF := (ho5 _ (by omega)).trans hF
          have hCu := (ho5 _ (by omega)).trans hCu
          have hNu := (ho5 _ (by omega)).trans hNu
          have hNo := (ho5 _ (by omega)).trans hNo
          exact V_return d_Mo_renew_65 rfl (hQ G5 g r (by omega) (by omega) hfree hF hc1 hx1 hCu hNu (by rw [va_up_self] at hNo; exact hNo) hCo (fun q hq => by rw [ho5 q (by omega), ho4 q (by omega), ho3 q (by omega), ho2 q (by omega), ho1 q (by omega)]))
        · refine V_iincN d_Mo_renew_17 rfl ?_
          show pV Γ _ _ [some (.ref m), some (.int (nI c)), some (.int (nI s)), some (.int (nI (r + 1)))] _ _ _ _ _ _
          refine V_goto (tgt := 3) d_Mo_renew_20 (by decide) ?_
          exact ih (r + 1) (by omega) (by omega) (fun q h1 h2 => (Nat.lt_or_ge q r).elim (fun z => hv q h1 z) (fun z => by rw [show q = r by omega]; exact hb14)) (by omega)
  refine V_bipush (v := nI 17) d_Mo_renew_0 (by decide +kernel) ?_
  refine V_istore_n d_Mo_renew_2 (Nat.le_of_ble_eq_true rfl) ?_
  show pV Γ _ _ [some (.ref m), some (.int (nI c)), some (.int (nI s)), some (.int (nI 17))] _ _ _ _ _ _
  exact loop 41 17 (by omega) (by omega) (fun q h1 h2 => absurd h1 (by omega)) (by omega)
set_option maxHeartbeats 1000000 in
theorem c_Mo_kept {Γ : pmE} {G : pmG} {n : Nat} {Q : pmPost} {m : Nat} {ch ba : Int32} {cu : Nat → Nat} {co : Nat → Nat} {dp : Nat → Nat} {fr : Nat → Nat} {x : Int32} (hH : G m = some (.inr (kMo, moFs m ch ba))) (hCu : G (m + 2) = some (.inl (0, 6, .inl (fun j => nI (cu j))))) (hCo : G (m + 5) = some (.inl (0, 41, .inl (fun j => nI (co j))))) (hDp : G (m + 12) = some (.inl (0, 3, .inl (fun j => nI (dp j))))) (hFr : G (m + 13) = some (.inl (0, 15, .inl (fun j => nI (fr j))))) (hcu : ∀ c, c < 6 → cu c < 41) (hdp : ∀ t, t < 3 → dp t ≤ 5) (hfr : ∀ q, q < 15 → fr q < 41) (hco : ∀ r, r < 41 → co r < 6) (hN : (¬ ∃ c, c < 6 ∧ x = nI c ∧ 0 < cu c) → Q (some (.int (nI 0))) n G) (hS : ∀ c, c < 6 → x = nI c → 0 < cu c → Q (some (.int (nI (rCnt (inUs cu dp fr) co c 24)))) n G) : pV Γ m_Mo_kept 0 [some (.ref m), some (.int x), none, none] [] n G 0 0 Q := by
  refine V_aload_n d_Mo_kept_0 rfl ?_
  refine V_iload_n d_Mo_kept_1 rfl ?_
  refine V_callV (As := [.int x]) (rest := []) (lo' := [some (.ref m), some (.int x)]) (bc1 := 0) (bs1 := 0) (bc' := 0) (bs' := 0) d_Mo_kept_2 k_Mo_kept_77 hH rfl rfl rfl rfl (by rfl) (by rfl) ?_
  refine c_Mo_loaded hH hCu hcu ?_
  show pV Γ m_Mo_kept 5 [some (.ref m), some (.int x), none, none] [.int (pB (∃ c, c < 6 ∧ x = nI c ∧ 0 < cu c))] _ G 0 0 Q
  refine V_if_neB (tgt := 10) d_Mo_kept_5 (by decide) (fun hb5 => ?_) (fun hb5 => ?_)
  · refine V_iconst (v := nI 0) d_Mo_kept_10 (by decide +kernel) ?_
    refine V_istore_n d_Mo_kept_11 (Nat.le_of_ble_eq_true rfl) ?_
    show pV Γ _ _ [some (.ref m), some (.int x), some (.int (nI 0)), none] _ _ _ _ _ _
    refine V_bipush (v := nI 17) d_Mo_kept_12 (by decide +kernel) ?_
    refine V_istore_n d_Mo_kept_14 (Nat.le_of_ble_eq_true rfl) ?_
    show pV Γ _ _ [some (.ref m), some (.int x), some (.int (nI 0)), some (.int (nI 17))] _ _ _ _ _ _
    obtain ⟨c, hc, hx, h0⟩ := hb5
    subst hx
    have loop : ∀ (d k : Nat), k ≤ 24 → 24 - k < d → pV Γ m_Mo_kept 15 [some (.ref m), some (.int (nI c)), some (.int (nI (rCnt (inUs cu dp fr) co c k))), some (.int (nI (17 + k)))] [] n G 0 0 Q := by
      intro d
      induction d with
      | zero => intro k _ hd; exact absurd hd (by omega)
      | succ d ih =>
        intro k hi hd 
        have hle := rCnt_le (inUs cu dp fr) co c k
        have hco9 : k < 24 → co (17 + k) < 6 := fun _ => hco _ (by omega)
        refine V_iload_n d_Mo_kept_15 rfl ?_
        refine V_bipush (v := nI 41) d_Mo_kept_16 (by decide +kernel) ?_
        refine V_icmp_geN (tgt := 53) d_Mo_kept_18 (by decide) (by omega) (by omega) (fun hb18 => ?_) (fun hb18 => ?_)
        · refine V_iload_n d_Mo_kept_53 rfl ?_
          exact V_ireturn d_Mo_kept_54 rfl (by rw [show k = 24 by omega]; exact hS c hc rfl h0)
        · refine V_iload_n d_Mo_kept_21 rfl ?_
          refine V_aload_n d_Mo_kept_22 rfl ?_
          refine V_getf d_Mo_kept_23 f_Mo_26 hH rfl ?_
          refine V_iload_n d_Mo_kept_26 rfl ?_
          refine V_iaload (j := 17 + k) d_Mo_kept_27 rfl hCo rfl (by omega) (by omega) ?_
          show pV Γ _ _ _ (.int (nI (co (17 + k))) :: _) _ _ _ _ _
          refine V_iload_n d_Mo_kept_28 rfl ?_
          refine V_icmp_neN (tgt := 44) d_Mo_kept_29 (by decide) (by have := hco9 (by omega); omega) (by omega) (fun hb29 => ?_) (fun hb29 => ?_)
          · refine V_iconst (v := nI 0) d_Mo_kept_44 (by decide +kernel) ?_
            refine V_iaddN d_Mo_kept_45 ?_
            rw [show rCnt (inUs cu dp fr) co c k + 0 = rCnt (inUs cu dp fr) co c (k + 1) from (by show _ = rCnt _ co c k + pI _ 1 0; rw [pI_f (fun e => by first | exact hb29 e.1 | exact hb37 e.2)])]
            refine V_istore_n d_Mo_kept_46 (Nat.le_of_ble_eq_true rfl) ?_
            show pV Γ _ _ [some (.ref m), some (.int (nI c)), some (.int (nI (rCnt (inUs cu dp fr) co c (k + 1)))), some (.int (nI (17 + k)))] _ _ _ _ _ _
            refine V_iincN d_Mo_kept_47 rfl ?_
            show pV Γ _ _ [some (.ref m), some (.int (nI c)), some (.int (nI (rCnt (inUs cu dp fr) co c (k + 1)))), some (.int (nI (17 + k + 1)))] _ _ _ _ _ _
            refine V_goto (tgt := 15) d_Mo_kept_50 (by decide) ?_
            exact ih (k + 1) (by omega) (by omega)
          · refine V_aload_n d_Mo_kept_32 rfl ?_
            refine V_iload_n d_Mo_kept_33 rfl ?_
            refine V_callV (As := [.int (nI (17 + k))]) (rest := [.int (nI (rCnt (inUs cu dp fr) co c k))]) (lo' := [some (.ref m), some (.int (nI (17 + k))), none, none]) (bc1 := 0) (bs1 := 0) (bc' := 0) (bs' := 0) d_Mo_kept_34 k_Mo_kept_131 hH rfl rfl rfl rfl (by rfl) (by rfl) ?_
            refine c_Mo_inUse hH hCu hDp hFr hcu hdp hfr (by omega) ?_
            show pV Γ m_Mo_kept 37 [some (.ref m), some (.int (nI c)), some (.int (nI (rCnt (inUs cu dp fr) co c k))), some (.int (nI (17 + k)))] [.int (pB (inUs cu dp fr (17 + k))), .int (nI (rCnt (inUs cu dp fr) co c k))] _ G 0 0 Q
            refine V_if_eqB (tgt := 44) d_Mo_kept_37 (by decide) (fun hb37 => ?_) (fun hb37 => ?_)
            · refine V_iconst (v := nI 0) d_Mo_kept_44 (by decide +kernel) ?_
              refine V_iaddN d_Mo_kept_45 ?_
              rw [show rCnt (inUs cu dp fr) co c k + 0 = rCnt (inUs cu dp fr) co c (k + 1) from (by show _ = rCnt _ co c k + pI _ 1 0; rw [pI_f (fun e => by first | exact hb29 e.1 | exact hb37 e.2)])]
              refine V_istore_n d_Mo_kept_46 (Nat.le_of_ble_eq_true rfl) ?_
              show pV Γ _ _ [some (.ref m), some (.int (nI c)), some (.int (nI (rCnt (inUs cu dp fr) co c (k + 1)))), some (.int (nI (17 + k)))] _ _ _ _ _ _
              refine V_iincN d_Mo_kept_47 rfl ?_
              show pV Γ _ _ [some (.ref m), some (.int (nI c)), some (.int (nI (rCnt (inUs cu dp fr) co c (k + 1)))), some (.int (nI (17 + k + 1)))] _ _ _ _ _ _
              refine V_goto (tgt := 15) d_Mo_kept_50 (by decide) ?_
              exact ih (k + 1) (by omega) (by omega)
            · refine V_iconst (v := nI 1) d_Mo_kept_40 (by decide +kernel) ?_
              refine V_goto (tgt := 45) d_Mo_kept_41 (by decide) ?_
              refine V_iaddN d_Mo_kept_45 ?_
              rw [show rCnt (inUs cu dp fr) co c k + 1 = rCnt (inUs cu dp fr) co c (k + 1) from (by show _ = rCnt _ co c k + pI _ 1 0; rw [pI_t ⟨hb29, hb37⟩])]
              refine V_istore_n d_Mo_kept_46 (Nat.le_of_ble_eq_true rfl) ?_
              show pV Γ _ _ [some (.ref m), some (.int (nI c)), some (.int (nI (rCnt (inUs cu dp fr) co c (k + 1)))), some (.int (nI (17 + k)))] _ _ _ _ _ _
              refine V_iincN d_Mo_kept_47 rfl ?_
              show pV Γ _ _ [some (.ref m), some (.int (nI c)), some (.int (nI (rCnt (inUs cu dp fr) co c (k + 1)))), some (.int (nI (17 + k + 1)))] _ _ _ _ _ _
              refine V_goto (tgt := 15) d_Mo_kept_50 (by decide) ?_
              exact ih (k + 1) (by omega) (by omega)
    exact loop 25 0 (by omega) (by omega)
  · refine V_iconst (v := nI 0) d_Mo_kept_8 (by decide +kernel) ?_
    exact V_ireturn d_Mo_kept_9 rfl (hN hb5)
