/-! LoadedClass, Trial, Transformer. -/
set_option maxHeartbeats 1000000 in
theorem c_Lc_init {Γ : pmE} {G : pmG} {n : Nat} {Q : pmPost} (h1 : G n = some (.inr (kLc, [.int 0, .null, .null]))) (hQ : ∀ G', isLd G' n 0 dBlk dBlk → (∀ q, (q < n ∨ n + 35 ≤ q) → G' q = G q) → Q none (n + 35) G') : pV Γ m_Lc_init 0 [some (.ref n)] [] (n + 1) G 34 246 Q := by
  refine V_aload_n d_Lc_init_0 rfl ?_
  refine V_objInit d_Lc_init_1 w_426 w_21 w_22 (by decide +kernel) rfl ?_
  refine V_aload_n d_Lc_init_4 rfl ?_
  refine V_iconst (v := nI 0) d_Lc_init_5 (by decide +kernel) ?_
  refine V_putf d_Lc_init_6 f_Lc_7 p_Lc_7 h1 rfl rfl rfl (fun G1 h1z ho1 => ?_)
  have h1 : G1 n = some (.inr (kLc, [.int (nI 0), .null, .null])) := h1z
  refine V_aload_n d_Lc_init_9 rfl ?_
  refine V_new d_Lc_init_10 n_Lc_13 (by rfl) (by rfl) (fun G2 hn2 ho2 => ?_)
  have hn2 : G2 (n + 1) = some (.inr (kDf, [.null, .null, .int 0, .null, .int 0, .null, .int 0])) := hn2
  show pV Γ _ _ _ (.ref (n + 1) :: _) (n + 2) _ _ _ _
  have h1 := (ho2 _ (by omega)).trans h1
  refine V_dup d_Lc_init_13 rfl ?_
  refine V_callI (As := []) (rest := [.ref (n + 1), .ref n]) (lo' := [some (.ref (n + 1)), none]) (bc1 := 16) (bs1 := 116) (bc' := 17) (bs' := 123) d_Lc_init_14 k_Lc_init_15 rfl rfl rfl rfl (by rfl) (by rfl) ?_
  refine c_Df_init hn2 (fun G3 hd0 ho3 => ?_)
  have h1 := (ho3 _ (by omega)).trans h1
  show pV Γ m_Lc_init 17 [some (.ref n)] [.ref (n + 1), .ref n] (n + 18) G3 17 123 Q
  refine V_putF d_Lc_init_17 p_Lc_16 rfl h1 rfl rfl rfl (fun G4 h1z ho4 => ?_)
  have h1 : G4 n = some (.inr (kLc, [.int (nI 0), .ref (n + 1), .null])) := h1z
  have hd0 := hd0.kept (fun q g1 g2 => ho4 q (by omega))
  refine V_aload_n d_Lc_init_20 rfl ?_
  refine V_new d_Lc_init_21 n_Lc_13 (by rfl) (by rfl) (fun G5 hn5 ho5 => ?_)
  have hn5 : G5 (n + 18) = some (.inr (kDf, [.null, .null, .int 0, .null, .int 0, .null, .int 0])) := hn5
  show pV Γ _ _ _ (.ref (n + 18) :: _) (n + 19) _ _ _ _
  have h1 := (ho5 _ (by omega)).trans h1
  have hd0 := hd0.kept (fun q g1 g2 => ho5 q (by omega))
  refine V_dup d_Lc_init_24 rfl ?_
  refine V_callI (As := []) (rest := [.ref (n + 18), .ref n]) (lo' := [some (.ref (n + 18)), none]) (bc1 := 16) (bs1 := 116) (bc' := 0) (bs' := 0) d_Lc_init_25 k_Lc_init_15 rfl rfl rfl rfl (by rfl) (by rfl) ?_
  refine c_Df_init hn5 (fun G6 hd1 ho6 => ?_)
  have h1 := (ho6 _ (by omega)).trans h1
  have hd0 := hd0.kept (fun q g1 g2 => ho6 q (by omega))
  show pV Γ m_Lc_init 28 [some (.ref n)] [.ref (n + 18), .ref n] (n + 35) G6 0 0 Q
  refine V_putF d_Lc_init_28 p_Lc_20 rfl h1 rfl rfl rfl (fun G7 h1z ho7 => ?_)
  have h1 : G7 n = some (.inr (kLc, [.int (nI 0), .ref (n + 1), .ref (n + 18)])) := h1z
  have hd0 := hd0.kept (fun q g1 g2 => ho7 q (by omega))
  have hd1 := hd1.kept (fun q g1 g2 => ho7 q (by omega))
  exact V_return d_Lc_init_31 rfl (hQ G7 ⟨h1, hd0, hd1⟩ (fun q hq => by rw [ho7 q (by omega), ho6 q (by omega), ho5 q (by omega), ho4 q (by omega), ho3 q (by omega), ho2 q (by omega), ho1 q (by omega)]))
set_option maxHeartbeats 1000000 in
theorem c_Tr_init {Γ : pmE} {G : pmG} {n : Nat} {Q : pmPost} (h1 : G n = some (.inr (kTr, [.int 0, .null, .null]))) (hQ : ∀ G', isTr G' n (-1) dBlk dBlk → (∀ q, (q < n ∨ n + 35 ≤ q) → G' q = G q) → Q none (n + 35) G') : pV Γ m_Tr_init 0 [some (.ref n)] [] (n + 1) G 34 246 Q := by
  refine V_aload_n d_Tr_init_0 rfl ?_
  refine V_objInit d_Tr_init_1 w_161 w_21 w_22 (by decide +kernel) rfl ?_
  refine V_aload_n d_Tr_init_4 rfl ?_
  refine V_iconst (v := (-1)) d_Tr_init_5 (by decide +kernel) ?_
  refine V_putf d_Tr_init_6 f_Tr_9 p_Tr_9 h1 rfl rfl rfl (fun G1 h1z ho1 => ?_)
  have h1 : G1 n = some (.inr (kTr, [.int ((-1)), .null, .null])) := h1z
  refine V_aload_n d_Tr_init_9 rfl ?_
  refine V_new d_Tr_init_10 n_Tr_15 (by rfl) (by rfl) (fun G2 hn2 ho2 => ?_)
  have hn2 : G2 (n + 1) = some (.inr (kDf, [.null, .null, .int 0, .null, .int 0, .null, .int 0])) := hn2
  show pV Γ _ _ _ (.ref (n + 1) :: _) (n + 2) _ _ _ _
  have h1 := (ho2 _ (by omega)).trans h1
  refine V_dup d_Tr_init_13 rfl ?_
  refine V_callI (As := []) (rest := [.ref (n + 1), .ref n]) (lo' := [some (.ref (n + 1)), none]) (bc1 := 16) (bs1 := 116) (bc' := 17) (bs' := 123) d_Tr_init_14 k_Tr_init_17 rfl rfl rfl rfl (by rfl) (by rfl) ?_
  refine c_Df_init hn2 (fun G3 hd0 ho3 => ?_)
  have h1 := (ho3 _ (by omega)).trans h1
  show pV Γ m_Tr_init 17 [some (.ref n)] [.ref (n + 1), .ref n] (n + 18) G3 17 123 Q
  refine V_putF d_Tr_init_17 p_Tr_18 rfl h1 rfl rfl rfl (fun G4 h1z ho4 => ?_)
  have h1 : G4 n = some (.inr (kTr, [.int ((-1)), .ref (n + 1), .null])) := h1z
  have hd0 := hd0.kept (fun q g1 g2 => ho4 q (by omega))
  refine V_aload_n d_Tr_init_20 rfl ?_
  refine V_new d_Tr_init_21 n_Tr_15 (by rfl) (by rfl) (fun G5 hn5 ho5 => ?_)
  have hn5 : G5 (n + 18) = some (.inr (kDf, [.null, .null, .int 0, .null, .int 0, .null, .int 0])) := hn5
  show pV Γ _ _ _ (.ref (n + 18) :: _) (n + 19) _ _ _ _
  have h1 := (ho5 _ (by omega)).trans h1
  have hd0 := hd0.kept (fun q g1 g2 => ho5 q (by omega))
  refine V_dup d_Tr_init_24 rfl ?_
  refine V_callI (As := []) (rest := [.ref (n + 18), .ref n]) (lo' := [some (.ref (n + 18)), none]) (bc1 := 16) (bs1 := 116) (bc' := 0) (bs' := 0) d_Tr_init_25 k_Tr_init_17 rfl rfl rfl rfl (by rfl) (by rfl) ?_
  refine c_Df_init hn5 (fun G6 hd1 ho6 => ?_)
  have h1 := (ho6 _ (by omega)).trans h1
  have hd0 := hd0.kept (fun q g1 g2 => ho6 q (by omega))
  show pV Γ m_Tr_init 28 [some (.ref n)] [.ref (n + 18), .ref n] (n + 35) G6 0 0 Q
  refine V_putF d_Tr_init_28 p_Tr_22 rfl h1 rfl rfl rfl (fun G7 h1z ho7 => ?_)
  have h1 : G7 n = some (.inr (kTr, [.int ((-1)), .ref (n + 1), .ref (n + 18)])) := h1z
  have hd0 := hd0.kept (fun q g1 g2 => ho7 q (by omega))
  have hd1 := hd1.kept (fun q g1 g2 => ho7 q (by omega))
  exact V_return d_Tr_init_31 rfl (hQ G7 ⟨h1, hd0, hd1⟩ (fun q hq => by rw [ho7 q (by omega), ho6 q (by omega), ho5 q (by omega), ho4 q (by omega), ho3 q (by omega), ho2 q (by omega), ho1 q (by omega)]))
set_option maxHeartbeats 1000000 in
theorem c_Lc_addEdition {Γ : pmE} {G : pmG} {n : Nat} {Q : pmPost} {a b e : Nat} {D O F : Dfn} (h : isLd G b e D O) (hf : isDef G a F) (hab : b + 35 ≤ a ∨ a + 17 ≤ b) (hQ : ∀ G', isLd G' b (e + 1) F O → (∀ q, (q < b ∨ b + 18 ≤ q) → G' q = G q) → Q none n G') : pV Γ m_Lc_addEdition 0 [some (.ref b), some (.ref a)] [] n G 0 0 Q := by
  obtain ⟨h1, hd, ho⟩ := h
  refine V_aload_n d_Lc_addEdition_0 rfl ?_
  refine V_getf d_Lc_addEdition_1 f_Lc_16 h1 rfl ?_
  refine V_aload_n d_Lc_addEdition_4 rfl ?_
  refine V_callV (As := [.ref a]) (rest := []) (lo' := [some (.ref (b + 1)), some (.ref a), none]) (bc1 := 0) (bs1 := 0) (bc' := 0) (bs' := 0) d_Lc_addEdition_5 k_Lc_addEdition_23 hd.2.1 rfl rfl rfl rfl (by rfl) (by rfl) ?_
  refine c_Df_become hd hf (by omega) (fun G1 hd ho1 => ?_)
  have h1 := (ho1 _ (by omega)).trans h1
  have ho := ho.kept (fun q g1 g2 => ho1 q (by omega))
  have hf := hf.kept (fun q g1 g2 => ho1 q (by omega))
  show pV Γ m_Lc_addEdition 8 [some (.ref b), some (.ref a)] [] _ G1 0 0 Q
  refine V_aload_n d_Lc_addEdition_8 rfl ?_
  refine V_dup d_Lc_addEdition_9 rfl ?_
  refine V_getf d_Lc_addEdition_10 f_Lc_7 h1 rfl ?_
  refine V_iconst (v := nI 1) d_Lc_addEdition_13 (by decide +kernel) ?_
  refine V_iaddN d_Lc_addEdition_14 ?_
  refine V_putf d_Lc_addEdition_15 f_Lc_7 p_Lc_7 h1 rfl rfl rfl (fun G2 h1z ho2 => ?_)
  have h1 : G2 b = some (.inr (kLc, [.int (nI (e + 1)), .ref (b + 1), .ref (b + 18)])) := h1z
  have ho := ho.kept (fun q g1 g2 => ho2 q (by omega))
  have hd := hd.kept (fun q g1 g2 => ho2 q (by omega))
  exact V_return d_Lc_addEdition_18 rfl (hQ G2 ⟨h1, hd, ho⟩ (fun q hq => by rw [ho2 q (by omega), ho1 q (by omega)]))
set_option maxHeartbeats 1000000 in
theorem c_Tr_take {Γ : pmE} {G : pmG} {n : Nat} {Q : pmPost} {a b : Nat} {t x : Int32} {D O F : Dfn} (h : isTr G b t D O) (hf : isDef G a F) (hab : b + 18 ≤ a ∨ a + 17 ≤ b) (hQ : ∀ G', isTr G' b x F O → (∀ q, (q < b ∨ b + 18 ≤ q) → G' q = G q) → Q none n G') : pV Γ m_Tr_take 0 [some (.ref b), some (.ref a), some (.int x)] [] n G 0 0 Q := by
  obtain ⟨h1, hd, ho⟩ := h
  refine V_aload_n d_Tr_take_0 rfl ?_
  refine V_getf d_Tr_take_1 f_Tr_18 h1 rfl ?_
  refine V_aload_n d_Tr_take_4 rfl ?_
  refine V_callV (As := [.ref a]) (rest := []) (lo' := [some (.ref (b + 1)), some (.ref a), none]) (bc1 := 0) (bs1 := 0) (bc' := 0) (bs' := 0) d_Tr_take_5 k_Tr_take_25 hd.2.1 rfl rfl rfl rfl (by rfl) (by rfl) ?_
  refine c_Df_become hd hf (by omega) (fun G1 hd ho1 => ?_)
  have h1 := (ho1 _ (by omega)).trans h1
  have ho := ho.kept (fun q g1 g2 => ho1 q (by omega))
  have hf := hf.kept (fun q g1 g2 => ho1 q (by omega))
  show pV Γ m_Tr_take 8 [some (.ref b), some (.ref a), some (.int x)] [] _ G1 0 0 Q
  refine V_aload_n d_Tr_take_8 rfl ?_
  refine V_iload_n d_Tr_take_9 rfl ?_
  refine V_putf d_Tr_take_10 f_Tr_9 p_Tr_9 h1 rfl rfl rfl (fun G2 h1z ho2 => ?_)
  have h1 : G2 b = some (.inr (kTr, [.int x, .ref (b + 1), .ref (b + 18)])) := h1z
  have ho := ho.kept (fun q g1 g2 => ho2 q (by omega))
  have hd := hd.kept (fun q g1 g2 => ho2 q (by omega))
  exact V_return d_Tr_take_13 rfl (hQ G2 ⟨h1, hd, ho⟩ (fun q hq => by rw [ho2 q (by omega), ho1 q (by omega)]))
theorem c_Tf_init {Γ : pmE} {G : pmG} {n : Nat} {Q : pmPost} (h1 : G n = some (.inr (kTf, [.int 0, .int 0, .int 0, .int 0, .int 0]))) (hQ : ∀ G', isTf G' n (false, 0, nI 0, -1, false) → (∀ q, q ≠ n → G' q = G q) → Q none (n + 1) G') : pV Γ m_Tf_init 0 [some (.ref n)] [] (n + 1) G 0 0 Q := by
  refine V_aload_n d_Tf_init_0 rfl ?_
  refine V_objInit d_Tf_init_1 w_129 w_21 w_22 (by decide +kernel) rfl ?_
  refine V_aload_n d_Tf_init_4 rfl ?_
  refine V_iconst (v := nI 0) d_Tf_init_5 (by decide +kernel) ?_
  refine V_putf d_Tf_init_6 f_Tf_9 p_Tf_9 h1 rfl (by first | rfl | exact pB_nar _) (by first | rfl | exact pB_fit _) (fun G1 h1z ho1 => ?_)
  have h1 : G1 n = some (.inr (kTf, [.int (nI 0), .int 0, .int 0, .int 0, .int 0])) := h1z
  refine V_aload_n d_Tf_init_9 rfl ?_
  refine V_iconst (v := nI 0) d_Tf_init_10 (by decide +kernel) ?_
  refine V_putf d_Tf_init_11 f_Tf_15 p_Tf_15 h1 rfl rfl rfl (fun G2 h1z ho2 => ?_)
  have h1 : G2 n = some (.inr (kTf, [.int (nI 0), .int (nI 0), .int 0, .int 0, .int 0])) := h1z
  refine V_aload_n d_Tf_init_14 rfl ?_
  refine V_iconst (v := nI 0) d_Tf_init_15 (by decide +kernel) ?_
  refine V_putf d_Tf_init_16 f_Tf_19 p_Tf_19 h1 rfl rfl rfl (fun G3 h1z ho3 => ?_)
  have h1 : G3 n = some (.inr (kTf, [.int (nI 0), .int (nI 0), .int (nI 0), .int 0, .int 0])) := h1z
  refine V_aload_n d_Tf_init_19 rfl ?_
  refine V_iconst (v := (-1)) d_Tf_init_20 (by decide +kernel) ?_
  refine V_putf d_Tf_init_21 f_Tf_22 p_Tf_22 h1 rfl rfl rfl (fun G4 h1z ho4 => ?_)
  have h1 : G4 n = some (.inr (kTf, [.int (nI 0), .int (nI 0), .int (nI 0), .int ((-1)), .int 0])) := h1z
  refine V_aload_n d_Tf_init_24 rfl ?_
  refine V_iconst (v := nI 0) d_Tf_init_25 (by decide +kernel) ?_
  refine V_putf d_Tf_init_26 f_Tf_25 p_Tf_25 h1 rfl (by first | rfl | exact pB_nar _) (by first | rfl | exact pB_fit _) (fun G5 h1z ho5 => ?_)
  have h1 : G5 n = some (.inr (kTf, [.int (nI 0), .int (nI 0), .int (nI 0), .int ((-1)), .int (nI 0)])) := h1z
  refine V_return d_Tf_init_29 rfl (hQ G5 ?_ (fun q hq => by rw [ho5 q hq, ho4 q hq, ho3 q hq, ho2 q hq, ho1 q hq]))
  unfold isTf
  rw [pB_f (by decide : ¬ (false = true))]
  exact h1
theorem c_Tf_isFor {Γ : pmE} {G : pmG} {n : Nat} {Q : pmPost} {a : Nat} {t : Trf} {x : Int32} (h : isTf G a t) (hQ : Q (some (.int (pB (t.2.2.2.1 = -1 ∨ t.2.2.2.1 = x)))) n G) : pV Γ m_Tf_isFor 0 [some (.ref a), some (.int x)] [] n G 0 0 Q := by
  refine V_aload_n d_Tf_isFor_0 rfl ?_
  refine V_getf d_Tf_isFor_1 f_Tf_22 h rfl ?_
  refine V_iconst (v := (-1)) d_Tf_isFor_4 (by decide +kernel) ?_
  refine V_icmp_eq (tgt := 16) d_Tf_isFor_5 (by decide) (fun hb5 => ?_) (fun hb5 => ?_)
  · refine V_iconst (v := nI 1) d_Tf_isFor_16 (by decide +kernel) ?_
    refine V_goto (tgt := 21) d_Tf_isFor_17 (by decide) ?_
    exact V_zreturn d_Tf_isFor_21 rfl (by first | exact pB_or _ | exact Or.inl rfl | exact Or.inr rfl) (pQ_t hQ (Or.inl hb5))
  · refine V_aload_n d_Tf_isFor_8 rfl ?_
    refine V_getf d_Tf_isFor_9 f_Tf_22 h rfl ?_
    refine V_iload_n d_Tf_isFor_12 rfl ?_
    refine V_icmp_ne (tgt := 20) d_Tf_isFor_13 (by decide) (fun hb13 => ?_) (fun hb13 => ?_)
    · refine V_iconst (v := nI 0) d_Tf_isFor_20 (by decide +kernel) ?_
      exact V_zreturn d_Tf_isFor_21 rfl (by first | exact pB_or _ | exact Or.inl rfl | exact Or.inr rfl) (pQ_f hQ (fun e => e.elim hb5 hb13))
    · refine V_iconst (v := nI 1) d_Tf_isFor_16 (by decide +kernel) ?_
      refine V_goto (tgt := 21) d_Tf_isFor_17 (by decide) ?_
      exact V_zreturn d_Tf_isFor_21 rfl (by first | exact pB_or _ | exact Or.inl rfl | exact Or.inr rfl) (pQ_t hQ (Or.inr hb13))
def dEmpU (D : Dfn) (i : Nat) : Dfn := (dP D, (dNi D, dI D), (dNf D, dF D), dNm D, dN D, dG D, (fun j => if j < i then 0 else dL D j), dC D)
def dRsU (v : Int32) (D : Dfn) (i : Nat) : Dfn := (dP D, (dNi D, dI D), (dNf D, dF D), dNm D, dN D, dG D, dL D, (fun j => if j < i then cd_rs v (dC D j) (dL D j) else dC D j))
theorem dEmpU_0 (D : Dfn) : dEmpU D 0 = D := by simp [dEmpU]
theorem dRsU_0 (v : Int32) (D : Dfn) : dRsU v D 0 = D := by simp [dRsU]
theorem dEmpU_s (D : Dfn) (i : Nat) : dSetM (dEmpU D i) i (dN D i) (dG D i) 0 (dC D i) = dEmpU D (i + 1) := by
  unfold dSetM dEmpU
  rw [upd_same, upd_same, up_same]
  congr 7
  funext j
  by_cases h : j = i
  · subst h; rw [va_up_self]; simp
  · rw [va_up_ne _ _ h]
    show (if j < i then 0 else dL D j) = _
    by_cases g : j < i
    · rw [if_pos g, if_pos (by omega)]
    · rw [if_neg g, if_neg (by omega)]
theorem dRsU_s (v : Int32) (D : Dfn) (i : Nat) : dSetM (dRsU v D i) i (dN D i) (dG D i) (dL D i) (cd_rs v (dC D i) (dL D i)) = dRsU v D (i + 1) := by
  unfold dSetM dRsU
  rw [upd_same, upd_same, up_same]
  congr 7
  funext j
  by_cases h : j = i
  · subst h; rw [va_up_self]; simp
  · rw [va_up_ne _ _ h]
    show (if j < i then cd_rs v (dC D j) (dL D j) else dC D j) = _
    by_cases g : j < i
    · rw [if_pos g, if_pos (by omega)]
    · rw [if_neg g, if_neg (by omega)]
set_option maxHeartbeats 1000000 in
theorem c_Tf_emptyAllCode {Γ : pmE} {G : pmG} {n : Nat} {Q : pmPost} {b : Nat} {D : Dfn} (h : isDef G b D) (hQ : ∀ G', isDef G' b (dEmpU D (dNm D)) → (∀ q, (q < b ∨ b + 17 ≤ q) → G' q = G q) → Q none n G') : pV Γ m_Tf_emptyAllCode 0 [some (.ref b), none] [] n G 0 0 Q := by
  have hnm4 : dNm D ≤ 4 := h.1.2.2.1
  have loop : ∀ (d i : Nat), i ≤ dNm D → dNm D - i < d → ∀ G1 : pmG, isDef G1 b (dEmpU D i) → (∀ q, (q < b ∨ b + 17 ≤ q) → G1 q = G q) → pV Γ m_Tf_emptyAllCode 2 [some (.ref b), some (.int (nI i))] [] n G1 0 0 Q := by
    intro d
    induction d with
    | zero => intro i _ hd; exact absurd hd (by omega)
    | succ d ih =>
      intro i hi hd G1 hD ho
      have h := hD
      obtain ⟨⟨hni, hnf, hnm, hln⟩, h1, ⟨f1, h2, h2'⟩, ⟨f2, h3, h3'⟩, ⟨f3, h4, h4'⟩, ⟨f4, h5, h5'⟩, h6, h7⟩ := h
      have hnm : dNm D ≤ 4 := hnm
      have h1 : G1 b = some (.inr (kDf, [.ref (b + 1), .ref (b + 2), .int (nI (dNi D)), .ref (b + 3), .int (nI (dNf D)), .ref (b + 4), .int (nI (dNm D))])) := h1
      refine V_iload_n d_Tf_emptyAllCode_2 rfl ?_
      refine V_aload_n d_Tf_emptyAllCode_3 rfl ?_
      refine V_getf d_Tf_emptyAllCode_4 f_Tf_28 h1 rfl ?_
      refine V_icmp_geN (tgt := 28) d_Tf_emptyAllCode_7 (by decide) (by omega) (by omega) (fun hb7 => ?_) (fun hb7 => ?_)
      · exact V_return d_Tf_emptyAllCode_28 rfl (hQ G1 (by rw [show i = dNm D by omega] at hD; exact hD) ho)
      · refine V_aload_n d_Tf_emptyAllCode_10 rfl ?_
        refine V_getf d_Tf_emptyAllCode_11 f_Tf_33 h1 rfl ?_
        refine V_iload_n d_Tf_emptyAllCode_14 rfl ?_
        refine V_aaload (j := i) d_Tf_emptyAllCode_15 rfl h5 rfl (by omega) (by omega) ?_
        rw [h5' i (by omega)]
        show pV Γ _ _ _ (.ref (b + 5 + 3 * i) :: _) _ _ _ _ _
        obtain ⟨hm, hc⟩ := h7 i (by show i < dNm D; omega)
        refine V_getf d_Tf_emptyAllCode_16 f_Tf_37 hm rfl ?_
        refine V_callV (As := []) (rest := []) (lo' := [some (.ref (b + 5 + 3 * i + 1))]) (bc1 := 0) (bs1 := 0) (bc' := 0) (bs' := 0) d_Tf_emptyAllCode_19 k_Tf_emptyAllCode_64 hc.2.1 rfl rfl rfl rfl (by rfl) (by rfl) ?_
        refine c_Cd_clear hc (fun G2 hc2 ho2 => ?_)
        show pV Γ m_Tf_emptyAllCode 22 [some (.ref b), some (.int (nI i))] [] _ G2 0 0 Q
        refine V_iincN d_Tf_emptyAllCode_22 rfl ?_
        show pV Γ _ _ [some (.ref b), some (.int (nI (i + 1)))] _ _ _ _ _ _
        refine V_goto (tgt := 2) d_Tf_emptyAllCode_25 (by decide) ?_
        refine ih (i + 1) (by omega) (by omega) G2 ?_ (fun q hq => by rw [ho2 q (by omega), ho q hq])
        rw [← dEmpU_s]
        exact hD.mth (by omega) ⟨(ho2 _ (by omega)).trans hm, hc2.congr (fun k hk => absurd hk (by omega))⟩ (fun q hq => ho2 q (by omega))
  refine V_iconst (v := nI 0) d_Tf_emptyAllCode_0 (by decide +kernel) ?_
  refine V_istore_n d_Tf_emptyAllCode_1 (Nat.le_of_ble_eq_true rfl) ?_
  show pV Γ _ _ [some (.ref b), some (.int (nI 0))] _ _ _ _ _ _
  exact loop (dNm D + 1) 0 (by omega) (by omega) G (by rw [dEmpU_0]; exact h) (fun q _ => rfl)
noncomputable def dChg (k : Nat) (v : Int32) (D : Dfn) : Dfn :=
  if k = 1 then dRsU v D (dNm D) else if k = 2 then dSetP D (upd (dP D) 3 v) else if k = 3 then pI (∃ j, j < dNm D ∧ dN D j = v) (dEmpU D (dNm D)) D else if k = 4 then (if dNm D = 0 then D else dSetM D 0 v (dG D 0) (dL D 0) (dC D 0)) else D
set_option maxHeartbeats 1000000 in
theorem c_Tf_change0 {Γ : pmE} {G : pmG} {n : Nat} {Q : pmPost} {a b : Nat} {D : Dfn} {p0 v on r0 : Int32} (ht : G a = some (.inr (kTf, [.int p0, .int (nI 0), .int v, .int on, .int r0]))) (h : isDef G b D) (hab : a < b ∨ b + 17 ≤ a) (hQ : ∀ G', isDef G' b D → (∀ q, (q < b ∨ b + 17 ≤ q) → G' q = G q) → Q none n G') : pV Γ m_Tf_change 0 [some (.ref a), some (.ref b), none] [] n G 0 0 Q := by
  have h0 := h
  obtain ⟨⟨hni, hnf, hnm, hln⟩, h1, ⟨f1, h2, h2'⟩, ⟨f2, h3, h3'⟩, ⟨f3, h4, h4'⟩, ⟨f4, h5, h5'⟩, h6, h7⟩ := h
  refine V_aload_n d_Tf_change_0 rfl ?_
  refine V_getf d_Tf_change_1 f_Tf_15 ht rfl ?_
  refine V_tableOut (tgt := 125) d_Tf_change_4 (by decide) (by decide) ?_
  exact V_return d_Tf_change_125 rfl (hQ G h0 (fun q _ => rfl))
set_option maxHeartbeats 1000000 in
theorem c_Tf_change1 {Γ : pmE} {G : pmG} {n : Nat} {Q : pmPost} {a b : Nat} {D : Dfn} {p0 v on r0 : Int32} (ht : G a = some (.inr (kTf, [.int p0, .int (nI 1), .int v, .int on, .int r0]))) (h : isDef G b D) (hab : a < b ∨ b + 17 ≤ a) (hQ : ∀ G', isDef G' b (dRsU v D (dNm D)) → (∀ q, (q < b ∨ b + 17 ≤ q) → G' q = G q) → Q none n G') : pV Γ m_Tf_change 0 [some (.ref a), some (.ref b), none] [] n G 0 0 Q := by
  have h0 := h
  obtain ⟨⟨hni, hnf, hnm, hln⟩, h1, ⟨f1, h2, h2'⟩, ⟨f2, h3, h3'⟩, ⟨f3, h4, h4'⟩, ⟨f4, h5, h5'⟩, h6, h7⟩ := h
  have loop : ∀ (d i : Nat), i ≤ dNm D → dNm D - i < d → ∀ G1 : pmG, isDef G1 b (dRsU v D i) → G1 a = some (.inr (kTf, [.int p0, .int (nI 1), .int v, .int on, .int r0])) → (∀ q, (q < b ∨ b + 17 ≤ q) → G1 q = G q) → pV Γ m_Tf_change 38 [some (.ref a), some (.ref b), some (.int (nI i))] [] n G1 0 0 Q := by
    intro d
    induction d with
    | zero => intro i _ hd; exact absurd hd (by omega)
    | succ d ih =>
      intro i hi hd G1 hD ht ho
      have h := hD
      obtain ⟨⟨hni, hnf, hnm, hln⟩, h1, ⟨f1, h2, h2'⟩, ⟨f2, h3, h3'⟩, ⟨f3, h4, h4'⟩, ⟨f4, h5, h5'⟩, h6, h7⟩ := h
      have hnm : dNm D ≤ 4 := hnm
      have h1 : G1 b = some (.inr (kDf, [.ref (b + 1), .ref (b + 2), .int (nI (dNi D)), .ref (b + 3), .int (nI (dNf D)), .ref (b + 4), .int (nI (dNm D))])) := h1
      refine V_iload_n d_Tf_change_38 rfl ?_
      refine V_aload_n d_Tf_change_39 rfl ?_
      refine V_getf d_Tf_change_40 f_Tf_28 h1 rfl ?_
      refine V_icmp_geN (tgt := 68) d_Tf_change_43 (by decide) (by omega) (by omega) (fun hb43 => ?_) (fun hb43 => ?_)
      · refine V_goto (tgt := 125) d_Tf_change_68 (by decide) ?_
        exact V_return d_Tf_change_125 rfl (hQ G1 (by rw [show i = dNm D by omega] at hD; exact hD) ho)
      · refine V_aload_n d_Tf_change_46 rfl ?_
        refine V_getf d_Tf_change_47 f_Tf_33 h1 rfl ?_
        refine V_iload_n d_Tf_change_50 rfl ?_
        refine V_aaload (j := i) d_Tf_change_51 rfl h5 rfl (by omega) (by omega) ?_
        rw [h5' i (by omega)]
        show pV Γ _ _ _ (.ref (b + 5 + 3 * i) :: _) _ _ _ _ _
        obtain ⟨hm, hc⟩ := h7 i (by show i < dNm D; omega)
        refine V_getf d_Tf_change_52 f_Tf_37 hm rfl ?_
        refine V_aload_n d_Tf_change_55 rfl ?_
        refine V_getf d_Tf_change_56 f_Tf_19 ht rfl ?_
        refine V_callV (As := [.int v]) (rest := []) (lo' := [some (.ref (b + 5 + 3 * i + 1)), some (.int v), none]) (bc1 := 0) (bs1 := 0) (bc' := 0) (bs' := 0) d_Tf_change_59 k_Tf_change_43 hc.2.1 rfl rfl rfl rfl (by rfl) (by rfl) ?_
        refine c_Cd_raiseAdditions hc (fun G2 hc2 ho2 => ?_)
        show pV Γ m_Tf_change 62 [some (.ref a), some (.ref b), some (.int (nI i))] [] _ G2 0 0 Q
        refine V_iincN d_Tf_change_62 rfl ?_
        show pV Γ _ _ [some (.ref a), some (.ref b), some (.int (nI (i + 1)))] _ _ _ _ _ _
        refine V_goto (tgt := 38) d_Tf_change_65 (by decide) ?_
        refine ih (i + 1) (by omega) (by omega) G2 ?_ ((ho2 _ (by omega)).trans ht) (fun q hq => by rw [ho2 q (by omega), ho q hq])
        rw [← dRsU_s]
        refine hD.mth (by omega) ⟨(ho2 _ (by omega)).trans hm, ?_⟩ (fun q hq => ho2 q (by omega))
        have e : dC (dRsU v D i) i = dC D i := if_neg (by omega)
        rw [e] at hc2
        exact hc2
  refine V_aload_n d_Tf_change_0 rfl ?_
  refine V_getf d_Tf_change_1 f_Tf_15 ht rfl ?_
  refine V_tableIn (tgt := 36) d_Tf_change_4 (by decide) (by decide) rfl (by decide) ?_
  refine V_iconst (v := nI 0) d_Tf_change_36 (by decide +kernel) ?_
  refine V_istore_n d_Tf_change_37 (Nat.le_of_ble_eq_true rfl) ?_
  show pV Γ _ _ [some (.ref a), some (.ref b), some (.int (nI 0))] _ _ _ _ _ _
  exact loop (dNm D + 1) 0 (by omega) (by omega) G (by rw [dRsU_0]; exact h0) ht (fun q _ => rfl)
set_option maxHeartbeats 1000000 in
theorem c_Tf_change2 {Γ : pmE} {G : pmG} {n : Nat} {Q : pmPost} {a b : Nat} {D : Dfn} {p0 v on r0 : Int32} (ht : G a = some (.inr (kTf, [.int p0, .int (nI 2), .int v, .int on, .int r0]))) (h : isDef G b D) (hab : a < b ∨ b + 17 ≤ a) (hQ : ∀ G', isDef G' b (dSetP D (upd (dP D) 3 v)) → (∀ q, (q < b ∨ b + 17 ≤ q) → G' q = G q) → Q none n G') : pV Γ m_Tf_change 0 [some (.ref a), some (.ref b), none] [] n G 0 0 Q := by
  have h0 := h
  obtain ⟨⟨hni, hnf, hnm, hln⟩, h1, ⟨f1, h2, h2'⟩, ⟨f2, h3, h3'⟩, ⟨f3, h4, h4'⟩, ⟨f4, h5, h5'⟩, h6, h7⟩ := h
  refine V_aload_n d_Tf_change_0 rfl ?_
  refine V_getf d_Tf_change_1 f_Tf_15 ht rfl ?_
  refine V_tableIn (tgt := 71) d_Tf_change_4 (by decide) (by decide) rfl (by decide) ?_
  refine V_aload_n d_Tf_change_71 rfl ?_
  refine V_getf d_Tf_change_72 f_Tf_49 h1 rfl ?_
  refine V_iconst (v := nI 3) d_Tf_change_75 (by decide +kernel) ?_
  refine V_aload_n d_Tf_change_76 rfl ?_
  refine V_getf d_Tf_change_77 f_Tf_19 ht rfl ?_
  refine V_iastore (j := 3) d_Tf_change_80 rfl h2 rfl (by omega) (by omega) (fun G1 h2z ho1 => ?_)
  have h2 := h2z
  have h1 := (ho1 _ (by omega)).trans h1
  have h3 := (ho1 _ (by omega)).trans h3
  have h4 := (ho1 _ (by omega)).trans h4
  have h5 := (ho1 _ (by omega)).trans h5
  have ht := (ho1 _ (by omega)).trans ht
  refine V_goto (tgt := 125) d_Tf_change_81 (by decide) ?_
  refine V_return d_Tf_change_125 rfl (hQ G1 (h0.parts h2 (fun k hk => ?_) ho1) (fun q hq => ho1 q (by omega)))
  by_cases g : k = 3
  · rw [g, pk_us, pk_us]
  · rw [pk_un g, pk_un g]; exact h2' k hk
set_option maxHeartbeats 1000000 in
theorem c_Tf_change3 {Γ : pmE} {G : pmG} {n : Nat} {Q : pmPost} {a b : Nat} {D : Dfn} {p0 v on r0 : Int32} (ht : G a = some (.inr (kTf, [.int p0, .int (nI 3), .int v, .int on, .int r0]))) (h : isDef G b D) (hab : a < b ∨ b + 17 ≤ a) (hQ : ∀ G', isDef G' b (pI (∃ j, j < dNm D ∧ dN D j = v) (dEmpU D (dNm D)) D) → (∀ q, (q < b ∨ b + 17 ≤ q) → G' q = G q) → Q none n G') : pV Γ m_Tf_change 0 [some (.ref a), some (.ref b), none] [] n G 0 0 Q := by
  have h0 := h
  obtain ⟨⟨hni, hnf, hnm, hln⟩, h1, ⟨f1, h2, h2'⟩, ⟨f2, h3, h3'⟩, ⟨f3, h4, h4'⟩, ⟨f4, h5, h5'⟩, h6, h7⟩ := h
  refine V_aload_n d_Tf_change_0 rfl ?_
  refine V_getf d_Tf_change_1 f_Tf_15 ht rfl ?_
  refine V_tableIn (tgt := 84) d_Tf_change_4 (by decide) (by decide) rfl (by decide) ?_
  refine V_aload_n d_Tf_change_84 rfl ?_
  refine V_aload_n d_Tf_change_85 rfl ?_
  refine V_getf d_Tf_change_86 f_Tf_19 ht rfl ?_
  refine V_callV (As := [.int v]) (rest := []) (lo' := [some (.ref b), some (.int v), none]) (bc1 := 0) (bs1 := 0) (bc' := 0) (bs' := 0) d_Tf_change_89 k_Tf_change_53 h1 rfl rfl rfl rfl (by rfl) (by rfl) ?_
  refine c_Df_findMethod h0 (fun hn => ?_) (fun k hk he hf => ?_)
  · show pV Γ m_Tf_change 92 [some (.ref a), some (.ref b), none] [.null] _ G 0 0 Q
    refine V_ifnullN (tgt := 125) d_Tf_change_92 (by decide) ?_
    exact V_return d_Tf_change_125 rfl (hQ G (by rw [pI_f (fun ⟨j, hj, e⟩ => hn j hj e)]; exact h0) (fun q _ => rfl))
  · show pV Γ m_Tf_change 92 [some (.ref a), some (.ref b), none] [.ref (b + 5 + 3 * k)] _ G 0 0 Q
    refine V_ifnull d_Tf_change_92 ?_
    refine V_aload_n d_Tf_change_95 rfl ?_
    refine V_callS (As := [.ref b]) (rest := []) (lo' := [some (.ref b), none]) (bc1 := 0) (bs1 := 0) (bc' := 0) (bs' := 0) d_Tf_change_96 k_Tf_change_57 rfl rfl rfl rfl (by rfl) (by rfl) ?_
    refine c_Tf_emptyAllCode h0 (fun G1 hD ho1 => ?_)
    show pV Γ m_Tf_change 99 [some (.ref a), some (.ref b), none] [] _ G1 0 0 Q
    refine V_goto (tgt := 125) d_Tf_change_99 (by decide) ?_
    exact V_return d_Tf_change_125 rfl (hQ G1 (by rw [pI_t ⟨k, hk, he⟩]; exact hD) ho1)
set_option maxHeartbeats 1000000 in
theorem c_Tf_change4 {Γ : pmE} {G : pmG} {n : Nat} {Q : pmPost} {a b : Nat} {D : Dfn} {p0 v on r0 : Int32} (ht : G a = some (.inr (kTf, [.int p0, .int (nI 4), .int v, .int on, .int r0]))) (h : isDef G b D) (hab : a < b ∨ b + 17 ≤ a) (hQ : ∀ G', isDef G' b (if dNm D = 0 then D else dSetM D 0 v (dG D 0) (dL D 0) (dC D 0)) → (∀ q, (q < b ∨ b + 17 ≤ q) → G' q = G q) → Q none n G') : pV Γ m_Tf_change 0 [some (.ref a), some (.ref b), none] [] n G 0 0 Q := by
  have h0 := h
  obtain ⟨⟨hni, hnf, hnm, hln⟩, h1, ⟨f1, h2, h2'⟩, ⟨f2, h3, h3'⟩, ⟨f3, h4, h4'⟩, ⟨f4, h5, h5'⟩, h6, h7⟩ := h
  refine V_aload_n d_Tf_change_0 rfl ?_
  refine V_getf d_Tf_change_1 f_Tf_15 ht rfl ?_
  refine V_tableIn (tgt := 102) d_Tf_change_4 (by decide) (by decide) rfl (by decide) ?_
  refine V_aload_n d_Tf_change_102 rfl ?_
  refine V_getf d_Tf_change_103 f_Tf_28 h1 rfl ?_
  refine V_if_leN (tgt := 125) d_Tf_change_106 (by decide) (by omega) (fun hb106 => ?_) (fun hb106 => ?_)
  · exact V_return d_Tf_change_125 rfl (hQ G (by rw [if_pos hb106]; exact h0) (fun q _ => rfl))
  · refine V_aload_n d_Tf_change_109 rfl ?_
    refine V_getf d_Tf_change_110 f_Tf_33 h1 rfl ?_
    refine V_iconst (v := nI 0) d_Tf_change_113 (by decide +kernel) ?_
    refine V_aaload (j := 0) d_Tf_change_114 rfl h5 rfl (by omega) (by omega) ?_
    rw [h5' 0 (by omega)]
    obtain ⟨hm, hc⟩ := h7 0 (by omega)
    show pV Γ _ _ _ (.ref (b + 5 + 3 * 0) :: _) _ _ _ _ _
    refine V_aload_n d_Tf_change_115 rfl ?_
    refine V_getf d_Tf_change_116 f_Tf_19 ht rfl ?_
    refine V_putf d_Tf_change_119 f_Tf_61 p_Tf_61 hm rfl rfl rfl (fun G1 hmz ho1 => ?_)
    have hm : G1 (b + 5 + 3 * 0) = some (.inr (kMt, [.int v, .int (dG D 0), .ref (b + 5 + 3 * 0 + 1)])) := hmz
    have ht := (ho1 _ (by omega)).trans ht
    have hc := hc.kept (fun q g1 g2 => ho1 q (by omega))
    refine V_goto (tgt := 125) d_Tf_change_122 (by decide) ?_
    exact V_return d_Tf_change_125 rfl (hQ G1 (by rw [if_neg (by omega)]; exact h0.mth (by omega) ⟨hm, hc⟩ (fun q hq => ho1 q (by omega))) (fun q hq => ho1 q (by omega)))
theorem c_Tf_change {Γ : pmE} {G : pmG} {n : Nat} {Q : pmPost} {a b : Nat} {D : Dfn} {t : Trf} (ht : isTf G a t) (hk : t.2.1 ≤ 4) (h : isDef G b D) (hab : a < b ∨ b + 17 ≤ a) (hQ : ∀ G', isDef G' b (dChg t.2.1 t.2.2.1 D) → (∀ q, (q < b ∨ b + 17 ≤ q) → G' q = G q) → Q none n G') : pV Γ m_Tf_change 0 [some (.ref a), some (.ref b), none] [] n G 0 0 Q := by
  obtain ⟨pr, k, v, on, rp⟩ := t
  have hk : k ≤ 4 := hk
  unfold isTf at ht
  dsimp only at ht hQ
  rcases (show k = 0 ∨ k = 1 ∨ k = 2 ∨ k = 3 ∨ k = 4 by omega) with rfl | rfl | rfl | rfl | rfl
  · exact c_Tf_change0 ht h hab hQ
  · exact c_Tf_change1 ht h hab hQ
  · exact c_Tf_change2 ht h hab hQ
  · exact c_Tf_change3 ht h hab hQ
  · exact c_Tf_change4 ht h hab hQ
