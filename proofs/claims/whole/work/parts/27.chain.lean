/-! Chain, Shelf, and two small ones. -/
abbrev LdS : Type := Nat → Option (Nat × Dfn × Dfn)
def pLd (ld : LdS) (x : Int32) : Prop := ∃ c, c < 6 ∧ x = nI c ∧ ∃ L, ld c = some L
def isSh (G : pmG) (a : Nat) (f : Nat → Option Nat) (ld : LdS) (lo hi : Nat) : Prop := G a = some (.inr (kSh, [.ref (a + 1)])) ∧ G (a + 1) = some (.inl (kLc + 2, 6, .inr (.inr (.inr (.inr f))))) ∧ (∀ c, c < 6 → ld c = none → f c = none) ∧ (∀ c L, c < 6 → ld c = some L → ∃ b, f c = some b ∧ lo ≤ b ∧ b + 35 ≤ hi ∧ isLd G b L.1 L.2.1 L.2.2) ∧ ∀ c c' b b', c < 6 → c' < 6 → c ≠ c' → f c = some b → f c' = some b' → b + 35 ≤ b' ∨ b' + 35 ≤ b
theorem isSh.kept {G G' : pmG} {a : Nat} {f : Nat → Option Nat} {ld : LdS} {lo hi : Nat} (h : isSh G a f ld lo hi) (hq : ∀ q, ((a ≤ q ∧ q < a + 2) ∨ (lo ≤ q ∧ q < hi)) → G' q = G q) : isSh G' a f ld lo hi := by
  obtain ⟨h1, h2, h3, h4, h5⟩ := h
  refine ⟨by rw [hq a (by omega)]; exact h1, by rw [hq _ (by omega)]; exact h2, h3, fun c L hc hL => ?_, h5⟩
  obtain ⟨b, g1, g2, g3, g4⟩ := h4 c L hc hL
  exact ⟨b, g1, g2, g3, g4.kept fun q k1 k2 => hq q (by omega)⟩
theorem isSh.up {G : pmG} {a : Nat} {f : Nat → Option Nat} {ld : LdS} {lo hi hi' : Nat} (h : isSh G a f ld lo hi) (hh : hi ≤ hi') : isSh G a f ld lo hi' := by
  obtain ⟨h1, h2, h3, h4, h5⟩ := h
  refine ⟨h1, h2, h3, fun c L hc hL => ?_, h5⟩
  obtain ⟨b, g1, g2, g3, g4⟩ := h4 c L hc hL
  exact ⟨b, g1, g2, by omega, g4⟩
def isCh (G : pmG) (a : Nat) (trs : Nat → Trf) : Prop := G a = some (.inr (kCh, [.ref (a + 1)])) ∧ (∃ f, G (a + 1) = some (.inl (kTf + 2, 5, .inr (.inr (.inr (.inr f))))) ∧ ∀ k, k < 5 → f k = some (a + 2 + k)) ∧ ∀ k, k < 5 → isTf G (a + 2 + k) (trs k)
theorem isCh.kept {G G' : pmG} {a : Nat} {trs : Nat → Trf} (h : isCh G a trs) (hq : ∀ q, a ≤ q → q < a + 7 → G' q = G q) : isCh G' a trs := by
  obtain ⟨h1, ⟨f, h2, h3⟩, h4⟩ := h
  exact ⟨by rw [hq a (by omega) (by omega)]; exact h1, ⟨f, by rw [hq _ (by omega) (by omega)]; exact h2, h3⟩, fun k hk => (h4 k hk).kept fun q g1 g2 => hq q (by omega) (by omega)⟩
theorem nI_out {x : Int32} {n j : Nat} (hn : n < 2 ^ 31) (hj : j < n) (h : x < 0 ∨ nI n ≤ x) : x ≠ nI j := by
  rintro rfl
  rcases h with h | h
  · exact absurd h (nI_pos (by omega))
  · exact absurd h (nI_ge hj hn)
theorem c_HE_isClass {Γ : pmE} {G : pmG} {n : Nat} {Q : pmPost} {x : Int32} (hQ : Q (some (.int (pB (∃ j, j < 6 ∧ x = nI j)))) n G) : pV Γ m_HE_isClass 0 [some (.int x)] [] n G 0 0 Q := by
  refine V_iload_n d_HE_isClass_0 rfl ?_
  refine V_if_lt (tgt := 14) d_HE_isClass_1 (by decide) (fun hb1 => ?_) (fun hb1 => ?_)
  · refine V_iconst (v := nI 0) d_HE_isClass_14 (by decide +kernel) ?_
    exact V_zreturn d_HE_isClass_15 rfl (by first | exact pB_or _ | exact Or.inl rfl | exact Or.inr rfl) (pQ_f hQ (fun ⟨j, hj, e⟩ => nI_out (n := 6) (by omega) hj (Or.inl hb1) e))
  · refine V_iload_n d_HE_isClass_4 rfl ?_
    refine V_bipush (v := nI 6) d_HE_isClass_5 (by decide +kernel) ?_
    refine V_icmp_ge (tgt := 14) d_HE_isClass_7 (by decide) (fun hb7 => ?_) (fun hb7 => ?_)
    · refine V_iconst (v := nI 0) d_HE_isClass_14 (by decide +kernel) ?_
      exact V_zreturn d_HE_isClass_15 rfl (by first | exact pB_or _ | exact Or.inl rfl | exact Or.inr rfl) (pQ_f hQ (fun ⟨j, hj, e⟩ => nI_out (n := 6) (by omega) hj (Or.inr hb7) e))
    · refine V_iconst (v := nI 1) d_HE_isClass_10 (by decide +kernel) ?_
      refine V_goto (tgt := 15) d_HE_isClass_11 (by decide) ?_
      exact V_zreturn d_HE_isClass_15 rfl (by first | exact pB_or _ | exact Or.inl rfl | exact Or.inr rfl) (pQ_t hQ ((pk_ix x (n := 6) (by omega)).elim (fun h => absurd h hb1) (fun h => h.elim (fun h => absurd h hb7) id)))
theorem c_HE_isThread {Γ : pmE} {G : pmG} {n : Nat} {Q : pmPost} {x : Int32} (hQ : Q (some (.int (pB (∃ j, j < 3 ∧ x = nI j)))) n G) : pV Γ m_HE_isThread 0 [some (.int x)] [] n G 0 0 Q := by
  refine V_iload_n d_HE_isThread_0 rfl ?_
  refine V_if_lt (tgt := 13) d_HE_isThread_1 (by decide) (fun hb1 => ?_) (fun hb1 => ?_)
  · refine V_iconst (v := nI 0) d_HE_isThread_13 (by decide +kernel) ?_
    exact V_zreturn d_HE_isThread_14 rfl (by first | exact pB_or _ | exact Or.inl rfl | exact Or.inr rfl) (pQ_f hQ (fun ⟨j, hj, e⟩ => nI_out (n := 3) (by omega) hj (Or.inl hb1) e))
  · refine V_iload_n d_HE_isThread_4 rfl ?_
    refine V_iconst (v := nI 3) d_HE_isThread_5 (by decide +kernel) ?_
    refine V_icmp_ge (tgt := 13) d_HE_isThread_6 (by decide) (fun hb6 => ?_) (fun hb6 => ?_)
    · refine V_iconst (v := nI 0) d_HE_isThread_13 (by decide +kernel) ?_
      exact V_zreturn d_HE_isThread_14 rfl (by first | exact pB_or _ | exact Or.inl rfl | exact Or.inr rfl) (pQ_f hQ (fun ⟨j, hj, e⟩ => nI_out (n := 3) (by omega) hj (Or.inr hb6) e))
    · refine V_iconst (v := nI 1) d_HE_isThread_9 (by decide +kernel) ?_
      refine V_goto (tgt := 14) d_HE_isThread_10 (by decide) ?_
      exact V_zreturn d_HE_isThread_14 rfl (by first | exact pB_or _ | exact Or.inl rfl | exact Or.inr rfl) (pQ_t hQ ((pk_ix x (n := 3) (by omega)).elim (fun h => absurd h hb1) (fun h => h.elim (fun h => absurd h hb6) id)))
set_option maxHeartbeats 1000000 in
theorem c_Ch_init {Γ : pmE} {G : pmG} {n : Nat} {Q : pmPost} (h1 : G n = some (.inr (kCh, [.null]))) (hQ : ∀ G', isCh G' n (fun _ => (false, 0, nI 0, -1, false)) → (∀ q, (q < n ∨ n + 7 ≤ q) → G' q = G q) → Q none (n + 7) G') : pV Γ m_Ch_init 0 [some (.ref n), none] [] (n + 1) G 6 30 Q := by
  refine V_aload_n d_Ch_init_0 rfl ?_
  refine V_objInit d_Ch_init_1 w_122 w_21 w_22 (by decide +kernel) rfl ?_
  refine V_aload_n d_Ch_init_4 rfl ?_
  refine V_iconst (v := nI 5) d_Ch_init_5 (by decide +kernel) ?_
  refine V_anew (k := 12) (N := 5) d_Ch_init_6 rfl (by decide) w_123 w_124 rfl (by rfl) (by rfl) (fun G1 hn1 ho1 => ?_)
  have hn1 : G1 (n + 1) = some (.inl (12, 5, .inr (.inr (.inr (.inr (fun _ => none)))))) := hn1
  show pV Γ _ _ _ (.ref (n + 1) :: _) (n + 2) _ _ _ _
  have h1 := (ho1 _ (by omega)).trans h1
  refine V_putF d_Ch_init_9 p_Ch_11 rfl h1 rfl rfl rfl (fun G2 h1z ho2 => ?_)
  have h1 : G2 n = some (.inr (kCh, [.ref (n + 1)])) := h1z
  have hn1 := (ho2 _ (by omega)).trans hn1
  refine V_iconst (v := nI 0) d_Ch_init_12 (by decide +kernel) ?_
  refine V_istore_n d_Ch_init_13 (Nat.le_of_ble_eq_true rfl) ?_
  show pV Γ _ _ [some (.ref n), some (.int (nI 0))] _ _ _ _ _ _
  refine V_iload_n d_Ch_init_14 rfl ?_
  refine V_iconst (v := nI 5) d_Ch_init_15 (by decide +kernel) ?_
  refine V_icmp_geN (tgt := 38) d_Ch_init_16 (by decide) (by omega) (by omega) (fun h => absurd h (by omega)) (fun _ => ?_)
  refine V_aload_n d_Ch_init_19 rfl ?_
  refine V_getf d_Ch_init_20 f_Ch_11 h1 rfl ?_
  refine V_iload_n d_Ch_init_23 rfl ?_
  refine V_new d_Ch_init_24 n_Ch_9 (by rfl) (by rfl) (fun G3 hn3 ho3 => ?_)
  have hn3 : G3 (n + 2) = some (.inr (kTf, [.int 0, .int 0, .int 0, .int 0, .int 0])) := hn3
  show pV Γ _ _ _ (.ref (n + 2) :: _) (n + 3) _ _ _ _
  have h1 := (ho3 _ (by omega)).trans h1
  have hn1 := (ho3 _ (by omega)).trans hn1
  refine V_dup d_Ch_init_27 rfl ?_
  refine V_callI (As := []) (rest := [.ref (n + 2), .int (nI 0), .ref (n + 1)]) (lo' := [some (.ref (n + 2))]) (bc1 := 0) (bs1 := 0) (bc' := 4) (bs' := 20) d_Ch_init_28 k_Ch_init_17 rfl rfl rfl rfl (by rfl) (by rfl) ?_
  refine c_Tf_init hn3 (fun G4 ht0 ho4 => ?_)
  have h1 := (ho4 _ (by omega)).trans h1
  have hn1 := (ho4 _ (by omega)).trans hn1
  show pV Γ m_Ch_init 31 [some (.ref n), some (.int (nI 0))] [.ref (n + 2), .int (nI 0), .ref (n + 1)] (n + 3) G4 4 20 Q
  refine V_aastore (ci := 10) (j := 0) d_Ch_init_31 rfl rfl hn1 ht0 rfl (by omega) (by omega) (fun G5 hn1z ho5 => ?_)
  have hn1 := hn1z
  have h1 := (ho5 _ (by omega)).trans h1
  have ht0 := ht0.kept (fun q g1 g2 => ho5 q (by omega))
  refine V_iincN d_Ch_init_32 rfl ?_
  show pV Γ _ _ [some (.ref n), some (.int (nI 1))] _ _ _ _ _ _
  refine V_goto (tgt := 14) d_Ch_init_35 (by decide) ?_
  refine V_iload_n d_Ch_init_14 rfl ?_
  refine V_iconst (v := nI 5) d_Ch_init_15 (by decide +kernel) ?_
  refine V_icmp_geN (tgt := 38) d_Ch_init_16 (by decide) (by omega) (by omega) (fun h => absurd h (by omega)) (fun _ => ?_)
  refine V_aload_n d_Ch_init_19 rfl ?_
  refine V_getf d_Ch_init_20 f_Ch_11 h1 rfl ?_
  refine V_iload_n d_Ch_init_23 rfl ?_
  refine V_new d_Ch_init_24 n_Ch_9 (by rfl) (by rfl) (fun G6 hn6 ho6 => ?_)
  have hn6 : G6 (n + 3) = some (.inr (kTf, [.int 0, .int 0, .int 0, .int 0, .int 0])) := hn6
  show pV Γ _ _ _ (.ref (n + 3) :: _) (n + 4) _ _ _ _
  have h1 := (ho6 _ (by omega)).trans h1
  have hn1 := (ho6 _ (by omega)).trans hn1
  have ht0 := ht0.kept (fun q g1 g2 => ho6 q (by omega))
  refine V_dup d_Ch_init_27 rfl ?_
  refine V_callI (As := []) (rest := [.ref (n + 3), .int (nI 1), .ref (n + 1)]) (lo' := [some (.ref (n + 3))]) (bc1 := 0) (bs1 := 0) (bc' := 3) (bs' := 15) d_Ch_init_28 k_Ch_init_17 rfl rfl rfl rfl (by rfl) (by rfl) ?_
  refine c_Tf_init hn6 (fun G7 ht1 ho7 => ?_)
  have h1 := (ho7 _ (by omega)).trans h1
  have hn1 := (ho7 _ (by omega)).trans hn1
  have ht0 := ht0.kept (fun q g1 g2 => ho7 q (by omega))
  show pV Γ m_Ch_init 31 [some (.ref n), some (.int (nI 1))] [.ref (n + 3), .int (nI 1), .ref (n + 1)] (n + 4) G7 3 15 Q
  refine V_aastore (ci := 10) (j := 1) d_Ch_init_31 rfl rfl hn1 ht1 rfl (by omega) (by omega) (fun G8 hn1z ho8 => ?_)
  have hn1 := hn1z
  have h1 := (ho8 _ (by omega)).trans h1
  have ht0 := ht0.kept (fun q g1 g2 => ho8 q (by omega))
  have ht1 := ht1.kept (fun q g1 g2 => ho8 q (by omega))
  refine V_iincN d_Ch_init_32 rfl ?_
  show pV Γ _ _ [some (.ref n), some (.int (nI 2))] _ _ _ _ _ _
  refine V_goto (tgt := 14) d_Ch_init_35 (by decide) ?_
  refine V_iload_n d_Ch_init_14 rfl ?_
  refine V_iconst (v := nI 5) d_Ch_init_15 (by decide +kernel) ?_
  refine V_icmp_geN (tgt := 38) d_Ch_init_16 (by decide) (by omega) (by omega) (fun h => absurd h (by omega)) (fun _ => ?_)
  refine V_aload_n d_Ch_init_19 rfl ?_
  refine V_getf d_Ch_init_20 f_Ch_11 h1 rfl ?_
  refine V_iload_n d_Ch_init_23 rfl ?_
  refine V_new d_Ch_init_24 n_Ch_9 (by rfl) (by rfl) (fun G9 hn9 ho9 => ?_)
  have hn9 : G9 (n + 4) = some (.inr (kTf, [.int 0, .int 0, .int 0, .int 0, .int 0])) := hn9
  show pV Γ _ _ _ (.ref (n + 4) :: _) (n + 5) _ _ _ _
  have h1 := (ho9 _ (by omega)).trans h1
  have hn1 := (ho9 _ (by omega)).trans hn1
  have ht0 := ht0.kept (fun q g1 g2 => ho9 q (by omega))
  have ht1 := ht1.kept (fun q g1 g2 => ho9 q (by omega))
  refine V_dup d_Ch_init_27 rfl ?_
  refine V_callI (As := []) (rest := [.ref (n + 4), .int (nI 2), .ref (n + 1)]) (lo' := [some (.ref (n + 4))]) (bc1 := 0) (bs1 := 0) (bc' := 2) (bs' := 10) d_Ch_init_28 k_Ch_init_17 rfl rfl rfl rfl (by rfl) (by rfl) ?_
  refine c_Tf_init hn9 (fun G10 ht2 ho10 => ?_)
  have h1 := (ho10 _ (by omega)).trans h1
  have hn1 := (ho10 _ (by omega)).trans hn1
  have ht0 := ht0.kept (fun q g1 g2 => ho10 q (by omega))
  have ht1 := ht1.kept (fun q g1 g2 => ho10 q (by omega))
  show pV Γ m_Ch_init 31 [some (.ref n), some (.int (nI 2))] [.ref (n + 4), .int (nI 2), .ref (n + 1)] (n + 5) G10 2 10 Q
  refine V_aastore (ci := 10) (j := 2) d_Ch_init_31 rfl rfl hn1 ht2 rfl (by omega) (by omega) (fun G11 hn1z ho11 => ?_)
  have hn1 := hn1z
  have h1 := (ho11 _ (by omega)).trans h1
  have ht0 := ht0.kept (fun q g1 g2 => ho11 q (by omega))
  have ht1 := ht1.kept (fun q g1 g2 => ho11 q (by omega))
  have ht2 := ht2.kept (fun q g1 g2 => ho11 q (by omega))
  refine V_iincN d_Ch_init_32 rfl ?_
  show pV Γ _ _ [some (.ref n), some (.int (nI 3))] _ _ _ _ _ _
  refine V_goto (tgt := 14) d_Ch_init_35 (by decide) ?_
  refine V_iload_n d_Ch_init_14 rfl ?_
  refine V_iconst (v := nI 5) d_Ch_init_15 (by decide +kernel) ?_
  refine V_icmp_geN (tgt := 38) d_Ch_init_16 (by decide) (by omega) (by omega) (fun h => absurd h (by omega)) (fun _ => ?_)
  refine V_aload_n d_Ch_init_19 rfl ?_
  refine V_getf d_Ch_init_20 f_Ch_11 h1 rfl ?_
  refine V_iload_n d_Ch_init_23 rfl ?_
  refine V_new d_Ch_init_24 n_Ch_9 (by rfl) (by rfl) (fun G12 hn12 ho12 => ?_)
  have hn12 : G12 (n + 5) = some (.inr (kTf, [.int 0, .int 0, .int 0, .int 0, .int 0])) := hn12
  show pV Γ _ _ _ (.ref (n + 5) :: _) (n + 6) _ _ _ _
  have h1 := (ho12 _ (by omega)).trans h1
  have hn1 := (ho12 _ (by omega)).trans hn1
  have ht0 := ht0.kept (fun q g1 g2 => ho12 q (by omega))
  have ht1 := ht1.kept (fun q g1 g2 => ho12 q (by omega))
  have ht2 := ht2.kept (fun q g1 g2 => ho12 q (by omega))
  refine V_dup d_Ch_init_27 rfl ?_
  refine V_callI (As := []) (rest := [.ref (n + 5), .int (nI 3), .ref (n + 1)]) (lo' := [some (.ref (n + 5))]) (bc1 := 0) (bs1 := 0) (bc' := 1) (bs' := 5) d_Ch_init_28 k_Ch_init_17 rfl rfl rfl rfl (by rfl) (by rfl) ?_
  refine c_Tf_init hn12 (fun G13 ht3 ho13 => ?_)
  have h1 := (ho13 _ (by omega)).trans h1
  have hn1 := (ho13 _ (by omega)).trans hn1
  have ht0 := ht0.kept (fun q g1 g2 => ho13 q (by omega))
  have ht1 := ht1.kept (fun q g1 g2 => ho13 q (by omega))
  have ht2 := ht2.kept (fun q g1 g2 => ho13 q (by omega))
  show pV Γ m_Ch_init 31 [some (.ref n), some (.int (nI 3))] [.ref (n + 5), .int (nI 3), .ref (n + 1)] (n + 6) G13 1 5 Q
  refine V_aastore (ci := 10) (j := 3) d_Ch_init_31 rfl rfl hn1 ht3 rfl (by omega) (by omega) (fun G14 hn1z ho14 => ?_)
  have hn1 := hn1z
  have h1 := (ho14 _ (by omega)).trans h1
  have ht0 := ht0.kept (fun q g1 g2 => ho14 q (by omega))
  have ht1 := ht1.kept (fun q g1 g2 => ho14 q (by omega))
  have ht2 := ht2.kept (fun q g1 g2 => ho14 q (by omega))
  have ht3 := ht3.kept (fun q g1 g2 => ho14 q (by omega))
  refine V_iincN d_Ch_init_32 rfl ?_
  show pV Γ _ _ [some (.ref n), some (.int (nI 4))] _ _ _ _ _ _
  refine V_goto (tgt := 14) d_Ch_init_35 (by decide) ?_
  refine V_iload_n d_Ch_init_14 rfl ?_
  refine V_iconst (v := nI 5) d_Ch_init_15 (by decide +kernel) ?_
  refine V_icmp_geN (tgt := 38) d_Ch_init_16 (by decide) (by omega) (by omega) (fun h => absurd h (by omega)) (fun _ => ?_)
  refine V_aload_n d_Ch_init_19 rfl ?_
  refine V_getf d_Ch_init_20 f_Ch_11 h1 rfl ?_
  refine V_iload_n d_Ch_init_23 rfl ?_
  refine V_new d_Ch_init_24 n_Ch_9 (by rfl) (by rfl) (fun G15 hn15 ho15 => ?_)
  have hn15 : G15 (n + 6) = some (.inr (kTf, [.int 0, .int 0, .int 0, .int 0, .int 0])) := hn15
  show pV Γ _ _ _ (.ref (n + 6) :: _) (n + 7) _ _ _ _
  have h1 := (ho15 _ (by omega)).trans h1
  have hn1 := (ho15 _ (by omega)).trans hn1
  have ht0 := ht0.kept (fun q g1 g2 => ho15 q (by omega))
  have ht1 := ht1.kept (fun q g1 g2 => ho15 q (by omega))
  have ht2 := ht2.kept (fun q g1 g2 => ho15 q (by omega))
  have ht3 := ht3.kept (fun q g1 g2 => ho15 q (by omega))
  refine V_dup d_Ch_init_27 rfl ?_
  refine V_callI (As := []) (rest := [.ref (n + 6), .int (nI 4), .ref (n + 1)]) (lo' := [some (.ref (n + 6))]) (bc1 := 0) (bs1 := 0) (bc' := 0) (bs' := 0) d_Ch_init_28 k_Ch_init_17 rfl rfl rfl rfl (by rfl) (by rfl) ?_
  refine c_Tf_init hn15 (fun G16 ht4 ho16 => ?_)
  have h1 := (ho16 _ (by omega)).trans h1
  have hn1 := (ho16 _ (by omega)).trans hn1
  have ht0 := ht0.kept (fun q g1 g2 => ho16 q (by omega))
  have ht1 := ht1.kept (fun q g1 g2 => ho16 q (by omega))
  have ht2 := ht2.kept (fun q g1 g2 => ho16 q (by omega))
  have ht3 := ht3.kept (fun q g1 g2 => ho16 q (by omega))
  show pV Γ m_Ch_init 31 [some (.ref n), some (.int (nI 4))] [.ref (n + 6), .int (nI 4), .ref (n + 1)] (n + 7) G16 0 0 Q
  refine V_aastore (ci := 10) (j := 4) d_Ch_init_31 rfl rfl hn1 ht4 rfl (by omega) (by omega) (fun G17 hn1z ho17 => ?_)
  have hn1 := hn1z
  have h1 := (ho17 _ (by omega)).trans h1
  have ht0 := ht0.kept (fun q g1 g2 => ho17 q (by omega))
  have ht1 := ht1.kept (fun q g1 g2 => ho17 q (by omega))
  have ht2 := ht2.kept (fun q g1 g2 => ho17 q (by omega))
  have ht3 := ht3.kept (fun q g1 g2 => ho17 q (by omega))
  have ht4 := ht4.kept (fun q g1 g2 => ho17 q (by omega))
  refine V_iincN d_Ch_init_32 rfl ?_
  show pV Γ _ _ [some (.ref n), some (.int (nI 5))] _ _ _ _ _ _
  refine V_goto (tgt := 14) d_Ch_init_35 (by decide) ?_
  refine V_iload_n d_Ch_init_14 rfl ?_
  refine V_iconst (v := nI 5) d_Ch_init_15 (by decide +kernel) ?_
  refine V_icmp_geN (tgt := 38) d_Ch_init_16 (by decide) (by omega) (by omega) (fun _ => ?_) (fun h => absurd h (by omega))
  refine V_return d_Ch_init_38 rfl (hQ G17 ⟨h1, ⟨_, hn1, fun j hj => ?_⟩, fun j hj => ?_⟩ (fun q hq => by rw [ho17 q (by omega), ho16 q (by omega), ho15 q (by omega), ho14 q (by omega), ho13 q (by omega), ho12 q (by omega), ho11 q (by omega), ho10 q (by omega), ho9 q (by omega), ho8 q (by omega), ho7 q (by omega), ho6 q (by omega), ho5 q (by omega), ho4 q (by omega), ho3 q (by omega), ho2 q (by omega), ho1 q (by omega)]))
  · match j, hj with
    | 0, _ => rfl
    | 1, _ => rfl
    | 2, _ => rfl
    | 3, _ => rfl
    | 4, _ => rfl
    | k + 5, h => exact absurd h (by omega)
  · match j, hj with
    | 0, _ => exact ht0
    | 1, _ => exact ht1
    | 2, _ => exact ht2
    | 3, _ => exact ht3
    | 4, _ => exact ht4
    | k + 5, h => exact absurd h (by omega)
set_option maxHeartbeats 1000000 in
theorem c_Ch_put {Γ : pmE} {G : pmG} {n : Nat} {Q : pmPost} {a kd : Nat} {trs : Nat → Trf} {v on : Int32} {rp : Bool} (h : isCh G a trs) (hk : kd ≤ 4) (hF2 : (∀ j, j < 5 → (trs j).1 = true) → Q (some (.int (-1))) n G) (hS : ∀ j, j < 5 → (trs j).1 = false → (∀ i, i < j → (trs i).1 = true) → ∀ G', isCh G' a (va_up trs j (true, kd, v, on, rp)) → (∀ q, (q < a ∨ a + 7 ≤ q) → G' q = G q) → Q (some (.int (nI j))) n G') : pV Γ m_Ch_put 0 [some (.ref a), some (.int (nI kd)), some (.int v), some (.int on), some (.int (pB (rp = true))), none, none] [] n G 0 0 Q := by
  obtain ⟨h1, ⟨f, h2, h3⟩, h4⟩ := h
  have loop : ∀ (d i : Nat), i ≤ 5 → 5 - i < d → ∀ w : Option Value, (∀ j, j < i → (trs j).1 = true) → pV Γ m_Ch_put 14 [some (.ref a), some (.int (nI kd)), some (.int v), some (.int on), some (.int (pB (rp = true))), some (.int (nI i)), w] [] n G 0 0 Q := by
    intro d
    induction d with
    | zero => intro i _ hd; exact absurd hd (by omega)
    | succ d ih =>
      intro i hi hd w hv
      refine V_iload d_Ch_put_14 rfl ?_
      refine V_iconst (v := nI 5) d_Ch_put_16 (by decide +kernel) ?_
      refine V_icmp_geN (tgt := 77) d_Ch_put_17 (by decide) (by omega) (by omega) (fun hb17 => ?_) (fun hb17 => ?_)
      · refine V_iconst (v := (-1)) d_Ch_put_77 (by decide +kernel) ?_
        exact V_ireturn d_Ch_put_78 rfl (hF2 (fun j hj => hv j (by omega)))
      · refine V_aload_n d_Ch_put_20 rfl ?_
        refine V_getf d_Ch_put_21 f_Ch_11 h1 rfl ?_
        refine V_iload d_Ch_put_24 rfl ?_
        refine V_aaload (j := i) d_Ch_put_26 rfl h2 rfl (by omega) (by omega) ?_
        rw [h3 i (by omega)]
        show pV Γ _ _ _ (.ref (a + 2 + i) :: _) _ _ _ _ _
        refine V_astore d_Ch_put_27 (Nat.le_of_ble_eq_true rfl) ?_
        show pV Γ _ _ [some (.ref a), some (.int (nI kd)), some (.int v), some (.int on), some (.int (pB (rp = true))), some (.int (nI i)), some (.ref (a + 2 + i))] _ _ _ _ _ _
        refine V_aload d_Ch_put_29 rfl ?_
        refine V_getf d_Ch_put_31 f_Ch_18 (h4 i (by omega)) rfl ?_
        refine V_if_neB (tgt := 71) d_Ch_put_34 (by decide) (fun hb34 => ?_) (fun hb34 => ?_)
        · refine V_iincN d_Ch_put_71 rfl ?_
          show pV Γ _ _ [some (.ref a), some (.int (nI kd)), some (.int v), some (.int on), some (.int (pB (rp = true))), some (.int (nI (i + 1))), some (.ref (a + 2 + i))] _ _ _ _ _ _
          refine V_goto (tgt := 14) d_Ch_put_74 (by decide) ?_
          exact ih (i + 1) (by omega) (by omega) _ (fun j hj => by
            rcases Nat.lt_or_ge j i with q | q
            · exact hv j q
            · rw [show j = i by omega]; exact hb34)
        · have ht := h4 i (by omega)
          unfold isTf at ht
          refine V_aload d_Ch_put_37 rfl ?_
          refine V_iconst (v := nI 1) d_Ch_put_39 (by decide +kernel) ?_
          refine V_putf d_Ch_put_40 f_Ch_18 p_Ch_18 ht rfl (by first | rfl | exact pB_nar _) (by first | rfl | exact pB_fit _) (fun G1 htz ho1 => ?_)
          have ht : G1 (a + 2 + i) = some (.inr (kTf, [.int (nI 1), .int (nI ((trs i).2.1)), .int ((trs i).2.2.1), .int ((trs i).2.2.2.1), .int (pB ((trs i).2.2.2.2 = true))])) := htz
          have h1 := (ho1 _ (by omega)).trans h1
          have h2 := (ho1 _ (by omega)).trans h2
          refine V_aload d_Ch_put_43 rfl ?_
          refine V_iload_n d_Ch_put_45 rfl ?_
          refine V_putf d_Ch_put_46 f_Ch_22 p_Ch_22 ht rfl rfl rfl (fun G2 htz ho2 => ?_)
          have ht : G2 (a + 2 + i) = some (.inr (kTf, [.int (nI 1), .int (nI kd), .int ((trs i).2.2.1), .int ((trs i).2.2.2.1), .int (pB ((trs i).2.2.2.2 = true))])) := htz
          have h1 := (ho2 _ (by omega)).trans h1
          have h2 := (ho2 _ (by omega)).trans h2
          refine V_aload d_Ch_put_49 rfl ?_
          refine V_iload_n d_Ch_put_51 rfl ?_
          refine V_putf d_Ch_put_52 f_Ch_26 p_Ch_26 ht rfl rfl rfl (fun G3 htz ho3 => ?_)
          have ht : G3 (a + 2 + i) = some (.inr (kTf, [.int (nI 1), .int (nI kd), .int v, .int ((trs i).2.2.2.1), .int (pB ((trs i).2.2.2.2 = true))])) := htz
          have h1 := (ho3 _ (by omega)).trans h1
          have h2 := (ho3 _ (by omega)).trans h2
          refine V_aload d_Ch_put_55 rfl ?_
          refine V_iload_n d_Ch_put_57 rfl ?_
          refine V_putf d_Ch_put_58 f_Ch_29 p_Ch_29 ht rfl rfl rfl (fun G4 htz ho4 => ?_)
          have ht : G4 (a + 2 + i) = some (.inr (kTf, [.int (nI 1), .int (nI kd), .int v, .int on, .int (pB ((trs i).2.2.2.2 = true))])) := htz
          have h1 := (ho4 _ (by omega)).trans h1
          have h2 := (ho4 _ (by omega)).trans h2
          refine V_aload d_Ch_put_61 rfl ?_
          refine V_iload d_Ch_put_63 rfl ?_
          refine V_putf d_Ch_put_65 f_Ch_32 p_Ch_32 ht rfl (by first | rfl | exact pB_nar _) (by first | rfl | exact pB_fit _) (fun G5 htz ho5 => ?_)
          have ht : G5 (a + 2 + i) = some (.inr (kTf, [.int (nI 1), .int (nI kd), .int v, .int on, .int (pB (rp = true))])) := htz
          have h1 := (ho5 _ (by omega)).trans h1
          have h2 := (ho5 _ (by omega)).trans h2
          refine V_iload d_Ch_put_68 rfl ?_
          refine V_ireturn d_Ch_put_70 rfl (hS i (by omega) (Bool.eq_false_iff.mpr hb34) hv G5 ⟨h1, ⟨f, h2, h3⟩, fun j hj => ?_⟩ (fun q hq => by rw [ho5 q (by omega), ho4 q (by omega), ho3 q (by omega), ho2 q (by omega), ho1 q (by omega)]))
          by_cases g : j = i
          · subst g
            rw [va_up_self]
            unfold isTf
            rw [pB_t (rfl : true = true)]
            exact ht
          · rw [va_up_ne _ _ g]
            exact (h4 j hj).kept fun q g1 g2 => by rw [ho5 q (by omega), ho4 q (by omega), ho3 q (by omega), ho2 q (by omega), ho1 q (by omega)]
  refine V_iload_n d_Ch_put_0 rfl ?_
  refine V_if_ltN (tgt := 9) d_Ch_put_1 (by decide) (by omega) ?_
  refine V_iload_n d_Ch_put_4 rfl ?_
  refine V_iconst (v := nI 4) d_Ch_put_5 (by decide +kernel) ?_
  refine V_icmp_leN (tgt := 11) d_Ch_put_6 (by decide) (by omega) (by omega) (fun hb6 => ?_) (fun hb6 => ?_)
  · refine V_iconst (v := nI 0) d_Ch_put_11 (by decide +kernel) ?_
    refine V_istore d_Ch_put_12 (Nat.le_of_ble_eq_true rfl) ?_
    show pV Γ _ _ [some (.ref a), some (.int (nI kd)), some (.int v), some (.int on), some (.int (pB (rp = true))), some (.int (nI 0)), none] _ _ _ _ _ _
    exact loop 6 0 (by omega) (by omega) _ (fun j hj => absurd hj (by omega))
  · exact absurd hb6 (by omega)
theorem c_Ch_putF {Γ : pmE} {G : pmG} {n : Nat} {Q : pmPost} {a : Nat} {x v on r : Int32} (hx : x < 0 ∨ nI 4 < x) (hF : Q (some (.int (-1))) n G) : pV Γ m_Ch_put 0 [some (.ref a), some (.int x), some (.int v), some (.int on), some (.int r), none, none] [] n G 0 0 Q := by
  refine V_iload_n d_Ch_put_0 rfl ?_
  refine V_if_lt (tgt := 9) d_Ch_put_1 (by decide) (fun hb1 => ?_) (fun hb1 => ?_)
  · refine V_iconst (v := (-1)) d_Ch_put_9 (by decide +kernel) ?_
    exact V_ireturn d_Ch_put_10 rfl (hF)
  · refine V_iload_n d_Ch_put_4 rfl ?_
    refine V_iconst (v := nI 4) d_Ch_put_5 (by decide +kernel) ?_
    refine V_icmp_le (tgt := 11) d_Ch_put_6 (by decide) (fun hb6 => ?_) (fun hb6 => ?_)
    · exact absurd hx (fun h => h.elim hb1 (fun h => absurd hb6 (Int32.not_le.mpr h)))
    · refine V_iconst (v := (-1)) d_Ch_put_9 (by decide +kernel) ?_
      exact V_ireturn d_Ch_put_10 rfl (hF)
set_option maxHeartbeats 1000000 in
theorem c_Ch_free {Γ : pmE} {G : pmG} {n : Nat} {Q : pmPost} {a i : Nat} {trs : Nat → Trf} (h : isCh G a trs) (hi : i < 5) (hF : (trs i).1 = false → Q (some (.int (nI 0))) n G) (hS : (trs i).1 = true → ∀ G', isCh G' a (va_up trs i (false, (trs i).2)) → (∀ q, (q < a ∨ a + 7 ≤ q) → G' q = G q) → Q (some (.int (nI 1))) n G') : pV Γ m_Ch_free 0 [some (.ref a), some (.int (nI i))] [] n G 0 0 Q := by
  obtain ⟨h1, ⟨f, h2, h3⟩, h4⟩ := h
  refine V_iload_n d_Ch_free_0 rfl ?_
  refine V_if_ltN (tgt := 21) d_Ch_free_1 (by decide) (by omega) ?_
  refine V_iload_n d_Ch_free_4 rfl ?_
  refine V_iconst (v := nI 5) d_Ch_free_5 (by decide +kernel) ?_
  refine V_icmp_geN (tgt := 21) d_Ch_free_6 (by decide) (by omega) (by omega) (fun hb6 => ?_) (fun hb6 => ?_)
  · refine V_iconst (v := nI 0) d_Ch_free_21 (by decide +kernel) ?_
    exact V_zreturn d_Ch_free_22 rfl (by first | exact pB_or _ | exact Or.inl rfl | exact Or.inr rfl) (hF (by first | exact absurd hb6 (by omega) | exact Bool.eq_false_iff.mpr hb18))
  · refine V_aload_n d_Ch_free_9 rfl ?_
    refine V_getf d_Ch_free_10 f_Ch_11 h1 rfl ?_
    refine V_iload_n d_Ch_free_13 rfl ?_
    refine V_aaload (j := i) d_Ch_free_14 rfl h2 rfl (by omega) (by omega) ?_
    rw [h3 i (by omega)]
    show pV Γ _ _ _ (.ref (a + 2 + i) :: _) _ _ _ _ _
    refine V_getf d_Ch_free_15 f_Ch_18 (h4 i (by omega)) rfl ?_
    refine V_if_neB (tgt := 23) d_Ch_free_18 (by decide) (fun hb18 => ?_) (fun hb18 => ?_)
    · refine V_aload_n d_Ch_free_23 rfl ?_
      refine V_getf d_Ch_free_24 f_Ch_11 h1 rfl ?_
      refine V_iload_n d_Ch_free_27 rfl ?_
      refine V_aaload (j := i) d_Ch_free_28 rfl h2 rfl (by omega) (by omega) ?_
      rw [h3 i (by omega)]
      show pV Γ _ _ _ (.ref (a + 2 + i) :: _) _ _ _ _ _
      have ht := h4 i (by omega)
      unfold isTf at ht
      refine V_iconst (v := nI 0) d_Ch_free_29 (by decide +kernel) ?_
      refine V_putf d_Ch_free_30 f_Ch_18 p_Ch_18 ht rfl (by first | rfl | exact pB_nar _) (by first | rfl | exact pB_fit _) (fun G1 htz ho1 => ?_)
      have ht : G1 (a + 2 + i) = some (.inr (kTf, [.int (nI 0), .int (nI ((trs i).2.1)), .int ((trs i).2.2.1), .int ((trs i).2.2.2.1), .int (pB ((trs i).2.2.2.2 = true))])) := htz
      have h1 := (ho1 _ (by omega)).trans h1
      have h2 := (ho1 _ (by omega)).trans h2
      refine V_iconst (v := nI 1) d_Ch_free_33 (by decide +kernel) ?_
      refine V_zreturn d_Ch_free_34 rfl (by first | exact pB_or _ | exact Or.inl rfl | exact Or.inr rfl) (hS hb18 G1 ⟨h1, ⟨f, h2, h3⟩, fun j hj => ?_⟩ (fun q hq => by rw [ho1 q (by omega)]))
      by_cases g : j = i
      · subst g
        rw [va_up_self]
        unfold isTf
        rw [pB_f (by decide : ¬ (false = true))]
        exact ht
      · rw [va_up_ne _ _ g]
        exact (h4 j hj).kept fun q g1 g2 => by rw [ho1 q (by omega)]
    · refine V_iconst (v := nI 0) d_Ch_free_21 (by decide +kernel) ?_
      exact V_zreturn d_Ch_free_22 rfl (by first | exact pB_or _ | exact Or.inl rfl | exact Or.inr rfl) (hF (by first | exact absurd hb6 (by omega) | exact Bool.eq_false_iff.mpr hb18))
theorem c_Ch_freeF {Γ : pmE} {G : pmG} {n : Nat} {Q : pmPost} {a : Nat} {x : Int32} (hx : x < 0 ∨ nI 5 ≤ x) (hF : Q (some (.int (nI 0))) n G) : pV Γ m_Ch_free 0 [some (.ref a), some (.int x)] [] n G 0 0 Q := by
  refine V_iload_n d_Ch_free_0 rfl ?_
  refine V_if_lt (tgt := 21) d_Ch_free_1 (by decide) (fun hb1 => ?_) (fun hb1 => ?_)
  · refine V_iconst (v := nI 0) d_Ch_free_21 (by decide +kernel) ?_
    exact V_zreturn d_Ch_free_22 rfl (by first | exact pB_or _ | exact Or.inl rfl | exact Or.inr rfl) (hF)
  · refine V_iload_n d_Ch_free_4 rfl ?_
    refine V_iconst (v := nI 5) d_Ch_free_5 (by decide +kernel) ?_
    refine V_icmp_ge (tgt := 21) d_Ch_free_6 (by decide) (fun hb6 => ?_) (fun hb6 => ?_)
    · refine V_iconst (v := nI 0) d_Ch_free_21 (by decide +kernel) ?_
      exact V_zreturn d_Ch_free_22 rfl (by first | exact pB_or _ | exact Or.inl rfl | exact Or.inr rfl) (hF)
    · exact absurd hx (fun h => h.elim hb1 hb6)
noncomputable def dChgs (trs : Nat → Trf) (c : Int32) (rp : Bool) (D : Dfn) : Nat → Dfn
  | 0 => D
  | k + 1 => pI ((trs k).1 = true ∧ (trs k).2.2.2.2 = rp ∧ ((trs k).2.2.2.1 = -1 ∨ (trs k).2.2.2.1 = c)) (dChg (trs k).2.1 (trs k).2.2.1 (dChgs trs c rp D k)) (dChgs trs c rp D k)
set_option maxHeartbeats 1000000 in
theorem c_Ch_change {Γ : pmE} {G : pmG} {n : Nat} {Q : pmPost} {a b : Nat} {trs : Nat → Trf} {c x : Int32} {rp : Bool} {D : Dfn} (h : isCh G a trs) (hk : ∀ k, k < 5 → (trs k).2.1 ≤ 4) (hD : isDef G b D) (hab : a + 7 ≤ b ∨ b + 17 ≤ a) (hx : x = pB (rp = true)) (hQ : ∀ G', isDef G' b (dChgs trs c rp D 5) → (∀ q, (q < b ∨ b + 17 ≤ q) → G' q = G q) → Q none n G') : pV Γ m_Ch_change 0 [some (.ref a), some (.ref b), some (.int c), some (.int x), none, none] [] n G 0 0 Q := by
  subst hx
  have loop : ∀ (d i : Nat), i ≤ 5 → 5 - i < d → ∀ (w : Option Value) (G1 : pmG), isCh G1 a trs → isDef G1 b (dChgs trs c rp D i) → (∀ q, (q < b ∨ b + 17 ≤ q) → G1 q = G q) → pV Γ m_Ch_change 3 [some (.ref a), some (.ref b), some (.int c), some (.int (pB (rp = true))), some (.int (nI i)), w] [] n G1 0 0 Q := by
    intro d
    induction d with
    | zero => intro i _ hd; exact absurd hd (by omega)
    | succ d ih =>
      intro i hi hd w G1 hC hD ho
      have h := hC
      obtain ⟨h1, ⟨f, h2, h3⟩, h4⟩ := h
      refine V_iload d_Ch_change_3 rfl ?_
      refine V_iconst (v := nI 5) d_Ch_change_5 (by decide +kernel) ?_
      refine V_icmp_geN (tgt := 56) d_Ch_change_6 (by decide) (by omega) (by omega) (fun hb6 => ?_) (fun hb6 => ?_)
      · exact V_return d_Ch_change_56 rfl (hQ G1 (by rw [show i = 5 by omega] at hD; exact hD) ho)
      · refine V_aload_n d_Ch_change_9 rfl ?_
        refine V_getf d_Ch_change_10 f_Ch_11 h1 rfl ?_
        refine V_iload d_Ch_change_13 rfl ?_
        refine V_aaload (j := i) d_Ch_change_15 rfl h2 rfl (by omega) (by omega) ?_
        rw [h3 i (by omega)]
        show pV Γ _ _ _ (.ref (a + 2 + i) :: _) _ _ _ _ _
        refine V_astore d_Ch_change_16 (Nat.le_of_ble_eq_true rfl) ?_
        show pV Γ _ _ [some (.ref a), some (.ref b), some (.int c), some (.int (pB (rp = true))), some (.int (nI i)), some (.ref (a + 2 + i))] _ _ _ _ _ _
        refine V_aload d_Ch_change_18 rfl ?_
        refine V_getf d_Ch_change_20 f_Ch_18 (h4 i (by omega)) rfl ?_
        refine V_if_eqB (tgt := 50) d_Ch_change_23 (by decide) (fun hb23 => ?_) (fun hb23 => ?_)
        · refine V_iincN d_Ch_change_50 rfl ?_
          show pV Γ _ _ [some (.ref a), some (.ref b), some (.int c), some (.int (pB (rp = true))), some (.int (nI (i + 1))), some (.ref (a + 2 + i))] _ _ _ _ _ _
          refine V_goto (tgt := 3) d_Ch_change_53 (by decide) ?_
          refine ih (i + 1) (by omega) (by omega) _ G1 hC ?_ ho
          unfold dChgs
          rw [pI_f (fun e => by first | exact hb23 e.1 | exact hb32 (by rw [e.2.1]) | exact hb41 e.2.2)]
          exact hD
        · refine V_aload d_Ch_change_26 rfl ?_
          refine V_getf d_Ch_change_28 f_Ch_32 (h4 i (by omega)) rfl ?_
          refine V_iload_n d_Ch_change_31 rfl ?_
          refine V_icmp_ne (tgt := 50) d_Ch_change_32 (by decide) (fun hb32 => ?_) (fun hb32 => ?_)
          · refine V_iincN d_Ch_change_50 rfl ?_
            show pV Γ _ _ [some (.ref a), some (.ref b), some (.int c), some (.int (pB (rp = true))), some (.int (nI (i + 1))), some (.ref (a + 2 + i))] _ _ _ _ _ _
            refine V_goto (tgt := 3) d_Ch_change_53 (by decide) ?_
            refine ih (i + 1) (by omega) (by omega) _ G1 hC ?_ ho
            unfold dChgs
            rw [pI_f (fun e => by first | exact hb23 e.1 | exact hb32 (by rw [e.2.1]) | exact hb41 e.2.2)]
            exact hD
          · refine V_aload d_Ch_change_35 rfl ?_
            refine V_iload_n d_Ch_change_37 rfl ?_
            refine V_callV (As := [.int c]) (rest := []) (lo' := [some (.ref (a + 2 + i)), some (.int c)]) (bc1 := 0) (bs1 := 0) (bc' := 0) (bs' := 0) d_Ch_change_38 k_Ch_change_57 (h4 i (by omega)) rfl rfl rfl rfl (by rfl) (by rfl) ?_
            refine c_Tf_isFor (h4 i (by omega)) ?_
            show pV Γ m_Ch_change 41 [some (.ref a), some (.ref b), some (.int c), some (.int (pB (rp = true))), some (.int (nI i)), some (.ref (a + 2 + i))] [.int (pB ((trs i).2.2.2.1 = -1 ∨ (trs i).2.2.2.1 = c))] _ G1 0 0 Q
            refine V_if_eqB (tgt := 50) d_Ch_change_41 (by decide) (fun hb41 => ?_) (fun hb41 => ?_)
            · refine V_iincN d_Ch_change_50 rfl ?_
              show pV Γ _ _ [some (.ref a), some (.ref b), some (.int c), some (.int (pB (rp = true))), some (.int (nI (i + 1))), some (.ref (a + 2 + i))] _ _ _ _ _ _
              refine V_goto (tgt := 3) d_Ch_change_53 (by decide) ?_
              refine ih (i + 1) (by omega) (by omega) _ G1 hC ?_ ho
              unfold dChgs
              rw [pI_f (fun e => by first | exact hb23 e.1 | exact hb32 (by rw [e.2.1]) | exact hb41 e.2.2)]
              exact hD
            · refine V_aload d_Ch_change_44 rfl ?_
              refine V_aload_n d_Ch_change_46 rfl ?_
              refine V_callV (As := [.ref b]) (rest := []) (lo' := [some (.ref (a + 2 + i)), some (.ref b), none]) (bc1 := 0) (bs1 := 0) (bc' := 0) (bs' := 0) d_Ch_change_47 k_Ch_change_61 (h4 i (by omega)) rfl rfl rfl rfl (by rfl) (by rfl) ?_
              refine c_Tf_change (h4 i (by omega)) (hk i (by omega)) hD (by omega) (fun G2 hD2 ho2 => ?_)
              show pV Γ m_Ch_change 50 [some (.ref a), some (.ref b), some (.int c), some (.int (pB (rp = true))), some (.int (nI i)), some (.ref (a + 2 + i))] [] _ G2 0 0 Q
              refine V_iincN d_Ch_change_50 rfl ?_
              show pV Γ _ _ [some (.ref a), some (.ref b), some (.int c), some (.int (pB (rp = true))), some (.int (nI (i + 1))), some (.ref (a + 2 + i))] _ _ _ _ _ _
              refine V_goto (tgt := 3) d_Ch_change_53 (by decide) ?_
              refine ih (i + 1) (by omega) (by omega) _ G2 (hC.kept fun q g1 g2 => ho2 q (by omega)) ?_ (fun q hq => by rw [ho2 q hq, ho q hq])
              unfold dChgs
              rw [pI_t ⟨hb23, by
                have e := pB_inj hb32
                rcases (Bool.eq_false_or_eq_true rp) with g | g
                · rw [g] at e ⊢; exact e.mpr rfl
                · rw [g] at e ⊢; exact Bool.eq_false_iff.mpr (fun z => absurd (e.mp z) (by decide)), hb41⟩]
              exact hD2
  refine V_iconst (v := nI 0) d_Ch_change_0 (by decide +kernel) ?_
  refine V_istore d_Ch_change_1 (Nat.le_of_ble_eq_true rfl) ?_
  show pV Γ _ _ [some (.ref a), some (.ref b), some (.int c), some (.int (pB (rp = true))), some (.int (nI 0)), none] _ _ _ _ _ _
  exact loop 6 0 (by omega) (by omega) _ G h hD (fun q _ => rfl)
set_option maxHeartbeats 1000000 in
theorem c_Ch_treat {Γ : pmE} {G : pmG} {n : Nat} {Q : pmPost} {a b : Nat} {trs : Nat → Trf} {t : Int32} {D O : Dfn} (hC : isCh G a trs) (hk : ∀ k, k < 5 → (trs k).2.1 ≤ 4) (h : isTr G b t D O) (hab : a + 7 ≤ b ∨ b + 35 ≤ a) (hQ : ∀ G', isTr G' b t (dChgs trs t true (dChgs trs t false D 5) 5) (dChgs trs t false D 5) → (∀ q, (q < b ∨ b + 35 ≤ q) → G' q = G q) → Q none n G') : pV Γ m_Ch_treat 0 [some (.ref a), some (.ref b)] [] n G 0 0 Q := by
  obtain ⟨h1, hd, ho⟩ := h
  refine V_aload_n d_Ch_treat_0 rfl ?_
  refine V_aload_n d_Ch_treat_1 rfl ?_
  refine V_getf d_Ch_treat_2 f_Ch_35 h1 rfl ?_
  refine V_aload_n d_Ch_treat_5 rfl ?_
  refine V_getf d_Ch_treat_6 f_Ch_41 h1 rfl ?_
  refine V_iconst (v := nI 0) d_Ch_treat_9 (by decide +kernel) ?_
  refine V_callV (As := [.ref (b + 1), .int t, .int (nI 0)]) (rest := []) (lo' := [some (.ref a), some (.ref (b + 1)), some (.int t), some (.int (nI 0)), none, none]) (bc1 := 0) (bs1 := 0) (bc' := 0) (bs' := 0) d_Ch_treat_10 k_Ch_treat_44 hC.1 rfl rfl rfl rfl (by rfl) (by rfl) ?_
  refine c_Ch_change (rp := false) hC hk hd (by omega) (pB_f (by decide)).symm (fun G1 hd ho1 => ?_)
  have hC := hC.kept (fun q g1 g2 => ho1 q (by omega))
  have h1 := (ho1 _ (by omega)).trans h1
  have ho := ho.kept (fun q g1 g2 => ho1 q (by omega))
  show pV Γ m_Ch_treat 13 [some (.ref a), some (.ref b)] [] _ G1 0 0 Q
  refine V_aload_n d_Ch_treat_13 rfl ?_
  refine V_getf d_Ch_treat_14 f_Ch_48 h1 rfl ?_
  refine V_aload_n d_Ch_treat_17 rfl ?_
  refine V_getf d_Ch_treat_18 f_Ch_35 h1 rfl ?_
  refine V_callV (As := [.ref (b + 1)]) (rest := []) (lo' := [some (.ref (b + 18)), some (.ref (b + 1)), none]) (bc1 := 0) (bs1 := 0) (bc' := 0) (bs' := 0) d_Ch_treat_21 k_Ch_treat_51 ho.2.1 rfl rfl rfl rfl (by rfl) (by rfl) ?_
  refine c_Df_become ho hd (by omega) (fun G2 ho ho2 => ?_)
  have hC := hC.kept (fun q g1 g2 => ho2 q (by omega))
  have h1 := (ho2 _ (by omega)).trans h1
  have hd := hd.kept (fun q g1 g2 => ho2 q (by omega))
  show pV Γ m_Ch_treat 24 [some (.ref a), some (.ref b)] [] _ G2 0 0 Q
  refine V_aload_n d_Ch_treat_24 rfl ?_
  refine V_aload_n d_Ch_treat_25 rfl ?_
  refine V_getf d_Ch_treat_26 f_Ch_35 h1 rfl ?_
  refine V_aload_n d_Ch_treat_29 rfl ?_
  refine V_getf d_Ch_treat_30 f_Ch_41 h1 rfl ?_
  refine V_iconst (v := nI 1) d_Ch_treat_33 (by decide +kernel) ?_
  refine V_callV (As := [.ref (b + 1), .int t, .int (nI 1)]) (rest := []) (lo' := [some (.ref a), some (.ref (b + 1)), some (.int t), some (.int (nI 1)), none, none]) (bc1 := 0) (bs1 := 0) (bc' := 0) (bs' := 0) d_Ch_treat_34 k_Ch_treat_44 hC.1 rfl rfl rfl rfl (by rfl) (by rfl) ?_
  refine c_Ch_change (rp := true) hC hk hd (by omega) (pB_t rfl).symm (fun G3 hd ho3 => ?_)
  have h1 := (ho3 _ (by omega)).trans h1
  have ho := ho.kept (fun q g1 g2 => ho3 q (by omega))
  show pV Γ m_Ch_treat 37 [some (.ref a), some (.ref b)] [] _ G3 0 0 Q
  exact V_return d_Ch_treat_37 rfl (hQ G3 ⟨h1, hd, ho⟩ (fun q hq => by rw [ho3 q (by omega), ho2 q (by omega), ho1 q (by omega)]))
theorem c_Sh_init {Γ : pmE} {G : pmG} {n : Nat} {Q : pmPost} {lo hi : Nat} (h1 : G n = some (.inr (kSh, [.null]))) (hQ : ∀ G', isSh G' n (fun _ => none) (fun _ => none) lo hi → (∀ q, (q < n ∨ n + 2 ≤ q) → G' q = G q) → Q none (n + 2) G') : pV Γ m_Sh_init 0 [some (.ref n)] [] (n + 1) G 1 6 Q := by
  refine V_aload_n d_Sh_init_0 rfl ?_
  refine V_objInit d_Sh_init_1 w_110 w_21 w_22 (by decide +kernel) rfl ?_
  refine V_aload_n d_Sh_init_4 rfl ?_
  refine V_bipush (v := nI 6) d_Sh_init_5 (by decide +kernel) ?_
  refine V_anew (k := 9) (N := 6) d_Sh_init_7 rfl (by decide) w_111 w_112 rfl (by rfl) (by rfl) (fun G1 hn1 ho1 => ?_)
  have hn1 : G1 (n + 1) = some (.inl (9, 6, .inr (.inr (.inr (.inr (fun _ => none)))))) := hn1
  show pV Γ _ _ _ (.ref (n + 1) :: _) (n + 2) _ _ _ _
  have h1 := (ho1 _ (by omega)).trans h1
  refine V_putF d_Sh_init_10 p_Sh_11 rfl h1 rfl rfl rfl (fun G2 h1z ho2 => ?_)
  have h1 : G2 n = some (.inr (kSh, [.ref (n + 1)])) := h1z
  have hn1 := (ho2 _ (by omega)).trans hn1
  exact V_return d_Sh_init_13 rfl (hQ G2 ⟨h1, hn1, fun c _ _ => rfl, fun c L _ h => (by cases h), fun c c' b b' _ _ _ h => (by cases h)⟩ (fun q hq => by rw [ho2 q (by omega), ho1 q (by omega)]))
set_option maxHeartbeats 1000000 in
theorem c_Sh_find {Γ : pmE} {G : pmG} {n : Nat} {Q : pmPost} {a : Nat} {f : Nat → Option Nat} {ld : LdS} {lo hi : Nat} {x : Int32} (h : isSh G a f ld lo hi) (hN : ¬ pLd ld x → Q (some .null) n G) (hS : ∀ c L b, c < 6 → x = nI c → ld c = some L → f c = some b → lo ≤ b → b + 35 ≤ hi → isLd G b L.1 L.2.1 L.2.2 → Q (some (.ref b)) n G) : pV Γ m_Sh_find 0 [some (.ref a), some (.int x)] [] n G 0 0 Q := by
  obtain ⟨s1, s2, s3, s4, s5⟩ := h
  refine V_iload_n d_Sh_find_0 rfl ?_
  refine V_if_lt (tgt := 19) d_Sh_find_1 (by decide) (fun hb1 => ?_) (fun hb1 => ?_)
  · refine V_null d_Sh_find_19 ?_
    exact V_areturn d_Sh_find_20 rfl (Or.inl rfl) (hN (fun ⟨c, hc, e, _⟩ => nI_out (n := 6) (by omega) hc (Or.inl hb1) e))
  · refine V_iload_n d_Sh_find_4 rfl ?_
    refine V_bipush (v := nI 6) d_Sh_find_5 (by decide +kernel) ?_
    refine V_icmp_ge (tgt := 19) d_Sh_find_7 (by decide) (fun hb7 => ?_) (fun hb7 => ?_)
    · refine V_null d_Sh_find_19 ?_
      exact V_areturn d_Sh_find_20 rfl (Or.inl rfl) (hN (fun ⟨c, hc, e, _⟩ => nI_out (n := 6) (by omega) hc (Or.inr hb7) e))
    · refine V_aload_n d_Sh_find_10 rfl ?_
      refine V_getf d_Sh_find_11 f_Sh_11 s1 rfl ?_
      refine V_iload_n d_Sh_find_14 rfl ?_
      obtain ⟨c, hc, hx⟩ := (pk_ix x (n := 6) (by omega)).resolve_left hb1 |>.resolve_left hb7
      refine V_aaload (j := c) d_Sh_find_15 rfl s2 hx hc (by omega) ?_
      cases hl : ld c with
      | none =>
        rw [s3 c hc hl]
        show pV Γ _ _ _ (.null :: _) _ _ _ _ _
        refine V_goto (tgt := 20) d_Sh_find_16 (by decide) ?_
        exact V_areturn d_Sh_find_20 rfl (Or.inl rfl) (hN (fun ⟨c', hc', e, L, hL⟩ => by
        have e2 : c = c' := (nI_eq (by omega) (by omega)).mp (hx.symm.trans e)
        subst e2
        rw [hl] at hL; cases hL))
      | some L =>
        obtain ⟨b, g1, g2, g3, g4⟩ := s4 c L hc hl
        rw [g1]
        show pV Γ _ _ _ (.ref b :: _) _ _ _ _ _
        refine V_goto (tgt := 20) d_Sh_find_16 (by decide) ?_
        exact V_areturn d_Sh_find_20 rfl (Or.inr ⟨_, rfl⟩) (hS c L b hc hx hl g1 g2 g3 g4)
set_option maxHeartbeats 1000000 in
theorem c_Sh_add {Γ : pmE} {G : pmG} {n : Nat} {Q : pmPost} {a c t : Nat} {f : Nat → Option Nat} {ld : LdS} {lo : Nat} {tg : Int32} {D O : Dfn} (h : isSh G a f ld lo n) (hc : c < 6) (ht : isTr G t tg D O) (hlo : lo ≤ n) (ha : a + 2 ≤ lo) (htl : t + 35 ≤ lo) (hat : a + 2 ≤ t ∨ t + 35 ≤ a) (hQ : ∀ G', isSh G' a (va_up f c (some n)) (va_up ld c (some (1, D, O))) lo (n + 35) → (∀ q, ((q < n ∧ q ≠ a + 1) ∨ n + 35 ≤ q) → G' q = G q) → Q none (n + 35) G') : pV Γ m_Sh_add 0 [some (.ref a), some (.int (nI c)), some (.ref t), none] [] n G 35 249 Q := by
  obtain ⟨s1, s2, s3, s4, s5⟩ := h
  obtain ⟨t1, td, to⟩ := ht
  refine V_iload_n d_Sh_add_0 rfl ?_
  refine V_callS (As := [.int (nI c)]) (rest := []) (lo' := [some (.int (nI c))]) (bc1 := 0) (bs1 := 0) (bc' := 35) (bs' := 249) d_Sh_add_1 k_Sh_add_17 rfl rfl rfl rfl (by rfl) (by rfl) ?_
  refine c_HE_isClass ?_
  show pV Γ m_Sh_add 4 [some (.ref a), some (.int (nI c)), some (.ref t), none] [.int (pB (∃ j, j < 6 ∧ nI c = nI j))] _ G 35 249 Q
  refine V_if_neB (tgt := 8) d_Sh_add_4 (by decide) (fun hb4 => ?_) (fun hb4 => ?_)
  · refine V_new d_Sh_add_8 n_Sh_9 (by rfl) (by rfl) (fun G1 hn1 ho1 => ?_)
    have hn1 : G1 n = some (.inr (kLc, [.int 0, .null, .null])) := hn1
    show pV Γ _ _ _ (.ref n :: _) (n + 1) _ _ _ _
    have s1 := (ho1 _ (by omega)).trans s1
    have s2 := (ho1 _ (by omega)).trans s2
    have t1 := (ho1 _ (by omega)).trans t1
    have td := td.kept (fun q g1 g2 => ho1 q (by omega))
    have to := to.kept (fun q g1 g2 => ho1 q (by omega))
    refine V_dup d_Sh_add_11 rfl ?_
    refine V_callI (As := []) (rest := [.ref n]) (lo' := [some (.ref n)]) (bc1 := 34) (bs1 := 246) (bc' := 0) (bs' := 0) d_Sh_add_12 k_Sh_add_21 rfl rfl rfl rfl (by rfl) (by rfl) ?_
    refine c_Lc_init hn1 (fun G2 hl ho2 => ?_)
    have s1 := (ho2 _ (by omega)).trans s1
    have s2 := (ho2 _ (by omega)).trans s2
    have t1 := (ho2 _ (by omega)).trans t1
    have td := td.kept (fun q g1 g2 => ho2 q (by omega))
    have to := to.kept (fun q g1 g2 => ho2 q (by omega))
    obtain ⟨l1, l2, l3⟩ := hl
    show pV Γ m_Sh_add 15 [some (.ref a), some (.int (nI c)), some (.ref t), none] [.ref n] (n + 35) G2 0 0 Q
    refine V_astore_n d_Sh_add_15 (Nat.le_of_ble_eq_true rfl) ?_
    show pV Γ _ _ [some (.ref a), some (.int (nI c)), some (.ref t), some (.ref n)] _ _ _ _ _ _
    refine V_aload_n d_Sh_add_16 rfl ?_
    refine V_aload_n d_Sh_add_17 rfl ?_
    refine V_getf d_Sh_add_18 f_Sh_22 t1 rfl ?_
    refine V_callV (As := [.ref (t + 1)]) (rest := []) (lo' := [some (.ref n), some (.ref (t + 1))]) (bc1 := 0) (bs1 := 0) (bc' := 0) (bs' := 0) d_Sh_add_21 k_Sh_add_28 l1 rfl rfl rfl rfl (by rfl) (by rfl) ?_
    refine c_Lc_addEdition ⟨l1, l2, l3⟩ td (by omega) (fun G3 hl ho3 => ?_)
    have s1 := (ho3 _ (by omega)).trans s1
    have s2 := (ho3 _ (by omega)).trans s2
    have t1 := (ho3 _ (by omega)).trans t1
    have td := td.kept (fun q g1 g2 => ho3 q (by omega))
    have to := to.kept (fun q g1 g2 => ho3 q (by omega))
    obtain ⟨l1, l2, l3⟩ := hl
    show pV Γ m_Sh_add 24 [some (.ref a), some (.int (nI c)), some (.ref t), some (.ref n)] [] _ G3 0 0 Q
    refine V_aload_n d_Sh_add_24 rfl ?_
    refine V_getf d_Sh_add_25 f_Sh_32 l1 rfl ?_
    refine V_aload_n d_Sh_add_28 rfl ?_
    refine V_getf d_Sh_add_29 f_Sh_35 t1 rfl ?_
    refine V_callV (As := [.ref (t + 18)]) (rest := []) (lo' := [some (.ref (n + 18)), some (.ref (t + 18)), none]) (bc1 := 0) (bs1 := 0) (bc' := 0) (bs' := 0) d_Sh_add_32 k_Sh_add_36 l3.2.1 rfl rfl rfl rfl (by rfl) (by rfl) ?_
    refine c_Df_become l3 to (by omega) (fun G4 l3 ho4 => ?_)
    have s1 := (ho4 _ (by omega)).trans s1
    have s2 := (ho4 _ (by omega)).trans s2
    have t1 := (ho4 _ (by omega)).trans t1
    have td := td.kept (fun q g1 g2 => ho4 q (by omega))
    have to := to.kept (fun q g1 g2 => ho4 q (by omega))
    have l1 := (ho4 _ (by omega)).trans l1
    have l2 := l2.kept (fun q g1 g2 => ho4 q (by omega))
    show pV Γ m_Sh_add 35 [some (.ref a), some (.int (nI c)), some (.ref t), some (.ref n)] [] _ G4 0 0 Q
    refine V_aload_n d_Sh_add_35 rfl ?_
    refine V_getf d_Sh_add_36 f_Sh_11 s1 rfl ?_
    refine V_iload_n d_Sh_add_39 rfl ?_
    refine V_aload_n d_Sh_add_40 rfl ?_
    refine V_aastore (ci := 7) (j := c) d_Sh_add_41 rfl rfl s2 l1 rfl (by omega) (by omega) (fun G5 s2z ho5 => ?_)
    have s2 := s2z
    have s1 := (ho5 _ (by omega)).trans s1
    have t1 := (ho5 _ (by omega)).trans t1
    have td := td.kept (fun q g1 g2 => ho5 q (by omega))
    have to := to.kept (fun q g1 g2 => ho5 q (by omega))
    have l1 := (ho5 _ (by omega)).trans l1
    have l2 := l2.kept (fun q g1 g2 => ho5 q (by omega))
    have l3 := l3.kept (fun q g1 g2 => ho5 q (by omega))
    refine V_return d_Sh_add_42 rfl (hQ G5 ⟨s1, s2, fun c' hc' hl => ?_, fun c' L hc' hl => ?_, fun c1 c2 b1 b2 h1 h2 h3 h4 h5 => ?_⟩ (fun q hq => by rw [ho5 q (by omega), ho4 q (by omega), ho3 q (by omega), ho2 q (by omega), ho1 q (by omega)]))
    · by_cases g : c' = c
      · rw [g, va_up_self] at hl; cases hl
      · rw [va_up_ne _ _ g] at hl ⊢; exact s3 c' hc' hl
    · by_cases g : c' = c
      · rw [g, va_up_self] at hl ⊢
        cases hl
        exact ⟨n, rfl, hlo, by omega, l1, l2, l3⟩
      · rw [va_up_ne _ _ g] at hl ⊢
        obtain ⟨b, g1, g2, g3, g4⟩ := s4 c' L hc' hl
        exact ⟨b, g1, g2, by omega, g4.kept fun q k1 k2 => by rw [ho5 q (by omega), ho4 q (by omega), ho3 q (by omega), ho2 q (by omega), ho1 q (by omega)]⟩
    · have hb : ∀ c b, c < 6 → f c = some b → b + 35 ≤ n := fun c b hc hf => by
        cases hl : ld c with
        | none => rw [s3 c hc hl] at hf; cases hf
        | some L =>
          obtain ⟨b', g1, g2, g3, g4⟩ := s4 c L hc hl
          rw [hf] at g1; cases g1; exact g3
      by_cases g1 : c1 = c
      · by_cases g2 : c2 = c
        · exact absurd (g1.trans g2.symm) h3
        · rw [g1, va_up_self] at h4
          rw [va_up_ne _ _ g2] at h5
          cases h4; have := hb c2 b2 h2 h5; omega
      · by_cases g2 : c2 = c
        · rw [g2, va_up_self] at h5
          rw [va_up_ne _ _ g1] at h4
          cases h5; have := hb c1 b1 h1 h4; omega
        · rw [va_up_ne _ _ g1] at h4; rw [va_up_ne _ _ g2] at h5; exact s5 c1 c2 b1 b2 h1 h2 h3 h4 h5
  · exact V_return d_Sh_add_7 rfl (absurd ⟨c, hc, rfl⟩ hb4)
