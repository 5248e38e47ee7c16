/-! Code: its methods. -/
theorem isCode.congr {G : pmG} {a len : Nat} {c c' : Nat → Int32} (h : isCode G a len c) (he : ∀ k, k < 3 * len → c k = c' k) : isCode G a len c' := by
  obtain ⟨h0, h1, f, h2, h3⟩ := h
  exact ⟨h0, h1, f, h2, fun k hk => (h3 k hk).trans (he k hk)⟩
theorem c_Cd_init {Γ : pmE} {G : pmG} {n : Nat} {Q : pmPost} (h1 : G n = some (.inr (kCd, [.null, .int 0]))) (hQ : ∀ G', isCode G' n 0 (fun _ => 0) → (∀ q, q ≠ n → q ≠ n + 1 → G' q = G q) → Q none (n + 2) G') : pV Γ m_Cd_init 0 [some (.ref n)] [] (n + 1) G 1 18 Q := by
  refine V_aload_n d_Cd_init_0 rfl ?_
  refine V_objInit d_Cd_init_1 w_41 w_21 w_22 (by decide +kernel) rfl ?_
  refine V_aload_n d_Cd_init_4 rfl ?_
  refine V_bipush (v := nI 18) d_Cd_init_5 (by decide +kernel) ?_
  refine V_newi (N := 18) d_Cd_init_7 rfl (by decide) w_51 rfl (by rfl) (by rfl) (fun G1 hn1 ho1 => ?_)
  have hn1 : G1 (n + 1) = some (.inl (0, 18, .inl (fun _ => 0))) := hn1
  show pV Γ _ _ _ (.ref (n + 1) :: _) (n + 2) _ _ _ _
  have h1 := (ho1 _ (by omega)).trans h1
  refine V_putF d_Cd_init_9 p_Cd_11 rfl h1 rfl rfl rfl (fun G2 h1z ho2 => ?_)
  have h1 : G2 n = some (.inr (kCd, [.ref (n + 1), .int (nI 0)])) := h1z
  have hn1 := (ho2 _ (by omega)).trans hn1
  refine V_aload_n d_Cd_init_12 rfl ?_
  refine V_iconst (v := nI 0) d_Cd_init_13 (by decide +kernel) ?_
  refine V_putf d_Cd_init_14 f_Cd_15 p_Cd_15 h1 rfl rfl rfl (fun G3 h1z ho3 => ?_)
  have h1 : G3 n = some (.inr (kCd, [.ref (n + 1), .int (nI 0)])) := h1z
  have hn1 := (ho3 _ (by omega)).trans hn1
  exact V_return d_Cd_init_17 rfl (hQ G3 ⟨by omega, h1, _, hn1, fun k hk => absurd hk (by omega)⟩ (fun q g1 g2 => by rw [ho3 q g1, ho2 q g1, ho1 q g2]))
theorem c_Cd_clear {Γ : pmE} {G : pmG} {n : Nat} {Q : pmPost} {a len : Nat} {c : Nat → Int32} (h : isCode G a len c) (hQ : ∀ G', isCode G' a 0 c → (∀ q, q ≠ a → G' q = G q) → Q none n G') : pV Γ m_Cd_clear 0 [some (.ref a)] [] n G 0 0 Q := by
  obtain ⟨h0, h1, f, h2, h3⟩ := h
  refine V_aload_n d_Cd_clear_0 rfl ?_
  refine V_iconst (v := nI 0) d_Cd_clear_1 (by decide +kernel) ?_
  refine V_putf d_Cd_clear_2 f_Cd_15 p_Cd_15 h1 rfl rfl rfl (fun G1 h1z ho1 => ?_)
  have h1 : G1 a = some (.inr (kCd, [.ref (a + 1), .int (nI 0)])) := h1z
  have h2 := (ho1 _ (by omega)).trans h2
  exact V_return d_Cd_clear_5 rfl (hQ G1 ⟨by omega, h1, f, h2, fun k hk => absurd hk (by omega)⟩ (fun q hq => ho1 q hq))
theorem c_Cd_become {Γ : pmE} {G : pmG} {n : Nat} {Q : pmPost} {a b len lb : Nat} {c e : Nat → Int32} (h : isCode G a len c) (j : isCode G b lb e) (hab : a + 1 < b ∨ b + 1 < a) (hQ : ∀ G', isCode G' a lb e → (∀ q, q ≠ a → q ≠ a + 1 → G' q = G q) → Q none n G') : pV Γ m_Cd_become 0 [some (.ref a), some (.ref b)] [] n G 0 0 Q := by
  obtain ⟨h0, h1, f, h2, h3⟩ := h
  obtain ⟨j0, j1, g, j2, j3⟩ := j
  refine V_aload_n d_Cd_become_0 rfl ?_
  refine V_aload_n d_Cd_become_1 rfl ?_
  refine V_getf d_Cd_become_2 f_Cd_15 j1 rfl ?_
  refine V_putf d_Cd_become_5 f_Cd_15 p_Cd_15 h1 rfl rfl rfl (fun G1 h1z ho1 => ?_)
  have h1 : G1 a = some (.inr (kCd, [.ref (a + 1), .int (nI lb)])) := h1z
  have h2 := (ho1 _ (by omega)).trans h2
  have j1 := (ho1 _ (by omega)).trans j1
  have j2 := (ho1 _ (by omega)).trans j2
  refine V_aload_n d_Cd_become_8 rfl ?_
  refine V_getf d_Cd_become_9 f_Cd_11 j1 rfl ?_
  refine V_iconst (v := nI 0) d_Cd_become_12 (by decide +kernel) ?_
  refine V_aload_n d_Cd_become_13 rfl ?_
  refine V_getf d_Cd_become_14 f_Cd_11 h1 rfl ?_
  refine V_iconst (v := nI 0) d_Cd_become_17 (by decide +kernel) ?_
  refine V_aload_n d_Cd_become_18 rfl ?_
  refine V_getf d_Cd_become_19 f_Cd_15 h1 rfl ?_
  refine V_iconst (v := nI 3) d_Cd_become_22 (by decide +kernel) ?_
  refine V_imulN d_Cd_become_23 ?_
  refine V_copyi (d := 0) (k := lb * 3) d_Cd_become_24 w_285 w_276 w_275 w_12 rfl (by decide +kernel) rfl j2 h2 rfl rfl rfl (by omega) (by omega) (by omega) (by omega) (fun G2 h2' ho2 => ?_)
  have h1 := (ho2 _ (by omega)).trans h1
  refine V_return d_Cd_become_27 rfl (hQ G2 ⟨by omega, h1, _, h2', fun k hk => ?_⟩ (fun q g1 g2 => by rw [ho2 q g2, ho1 q g1]))
  rw [pk_cpy_in (by omega) (by omega), Nat.zero_add, Nat.sub_zero]
  exact j3 k hk
def cd_add (len : Nat) (c : Nat → Int32) (x y z : Int32) : Nat → Int32 := upd (upd (upd c (len * 3) x) (len * 3 + 1) y) (len * 3 + 2) z
set_option maxHeartbeats 1000000 in
theorem c_Cd_add {Γ : pmE} {G : pmG} {n : Nat} {Q : pmPost} {a len : Nat} {c : Nat → Int32} {x y z : Int32} (h : isCode G a len c) (hF : len = 6 → Q (some (.int (nI 0))) n G) (hQ : len < 6 → ∀ G', isCode G' a (len + 1) (cd_add len c x y z) → (∀ q, q ≠ a → q ≠ a + 1 → G' q = G q) → Q (some (.int (nI 1))) n G') : pV Γ m_Cd_add 0 [some (.ref a), some (.int x), some (.int y), some (.int z)] [] n G 0 0 Q := by
  obtain ⟨h0, h1, f, h2, h3⟩ := h
  refine V_aload_n d_Cd_add_0 rfl ?_
  refine V_getf d_Cd_add_1 f_Cd_15 h1 rfl ?_
  refine V_bipush (v := nI 6) d_Cd_add_4 (by decide +kernel) ?_
  refine V_icmp_ltN (tgt := 11) d_Cd_add_6 (by decide) (by omega) (by omega) (fun hb6 => ?_) (fun hb6 => ?_)
  · refine V_aload_n d_Cd_add_11 rfl ?_
    refine V_getf d_Cd_add_12 f_Cd_11 h1 rfl ?_
    refine V_aload_n d_Cd_add_15 rfl ?_
    refine V_getf d_Cd_add_16 f_Cd_15 h1 rfl ?_
    refine V_iconst (v := nI 3) d_Cd_add_19 (by decide +kernel) ?_
    refine V_imulN d_Cd_add_20 ?_
    refine V_iload_n d_Cd_add_21 rfl ?_
    refine V_iastore (j := len * 3) d_Cd_add_22 rfl h2 rfl (by omega) (by omega) (fun G1 h2z ho1 => ?_)
    have h2 := h2z
    have h1 := (ho1 _ (by omega)).trans h1
    refine V_aload_n d_Cd_add_23 rfl ?_
    refine V_getf d_Cd_add_24 f_Cd_11 h1 rfl ?_
    refine V_aload_n d_Cd_add_27 rfl ?_
    refine V_getf d_Cd_add_28 f_Cd_15 h1 rfl ?_
    refine V_iconst (v := nI 3) d_Cd_add_31 (by decide +kernel) ?_
    refine V_imulN d_Cd_add_32 ?_
    refine V_iconst (v := nI 1) d_Cd_add_33 (by decide +kernel) ?_
    refine V_iaddN d_Cd_add_34 ?_
    refine V_iload_n d_Cd_add_35 rfl ?_
    refine V_iastore (j := len * 3 + 1) d_Cd_add_36 rfl h2 rfl (by omega) (by omega) (fun G2 h2z ho2 => ?_)
    have h2 := h2z
    have h1 := (ho2 _ (by omega)).trans h1
    refine V_aload_n d_Cd_add_37 rfl ?_
    refine V_getf d_Cd_add_38 f_Cd_11 h1 rfl ?_
    refine V_aload_n d_Cd_add_41 rfl ?_
    refine V_getf d_Cd_add_42 f_Cd_15 h1 rfl ?_
    refine V_iconst (v := nI 3) d_Cd_add_45 (by decide +kernel) ?_
    refine V_imulN d_Cd_add_46 ?_
    refine V_iconst (v := nI 2) d_Cd_add_47 (by decide +kernel) ?_
    refine V_iaddN d_Cd_add_48 ?_
    refine V_iload_n d_Cd_add_49 rfl ?_
    refine V_iastore (j := len * 3 + 2) d_Cd_add_50 rfl h2 rfl (by omega) (by omega) (fun G3 h2z ho3 => ?_)
    have h2 := h2z
    have h1 := (ho3 _ (by omega)).trans h1
    refine V_aload_n d_Cd_add_51 rfl ?_
    refine V_dup d_Cd_add_52 rfl ?_
    refine V_getf d_Cd_add_53 f_Cd_15 h1 rfl ?_
    refine V_iconst (v := nI 1) d_Cd_add_56 (by decide +kernel) ?_
    refine V_iaddN d_Cd_add_57 ?_
    refine V_putf d_Cd_add_58 f_Cd_15 p_Cd_15 h1 rfl rfl rfl (fun G4 h1z ho4 => ?_)
    have h1 : G4 a = some (.inr (kCd, [.ref (a + 1), .int (nI (len + 1))])) := h1z
    have h2 := (ho4 _ (by omega)).trans h2
    refine V_iconst (v := nI 1) d_Cd_add_61 (by decide +kernel) ?_
    refine V_zreturn d_Cd_add_62 rfl (by first | exact pB_or _ | exact Or.inl rfl | exact Or.inr rfl) (hQ (by omega) G4 ⟨by omega, h1, _, h2, fun k hk => ?_⟩ (fun q g1 g2 => by rw [ho4 q g1, ho3 q g2, ho2 q g2, ho1 q g2]))
    simp only [cd_add, upd]
    by_cases g3 : k = len * 3 + 2
    · simp [g3]
    · by_cases g2 : k = len * 3 + 1
      · simp [g2]
      · by_cases g1 : k = len * 3
        · simp [g1]
        · simp [g1, g2, g3]; exact h3 k (by omega)
  · refine V_iconst (v := nI 0) d_Cd_add_9 (by decide +kernel) ?_
    exact V_zreturn d_Cd_add_10 rfl (by first | exact pB_or _ | exact Or.inl rfl | exact Or.inr rfl) (hF (by omega))
theorem c_Cd_opAt {Γ : pmE} {G : pmG} {n : Nat} {Q : pmPost} {a len i : Nat} {c : Nat → Int32} (h : isCode G a len c) (hi : i < len) (hQ : Q (some (.int (c (i * 3)))) n G) : pV Γ m_Cd_opAt 0 [some (.ref a), some (.int (nI i))] [] n G 0 0 Q := by
  obtain ⟨h0, h1, f, h2, h3⟩ := h
  refine V_aload_n d_Cd_opAt_0 rfl ?_
  refine V_getf d_Cd_opAt_1 f_Cd_11 h1 rfl ?_
  refine V_iload_n d_Cd_opAt_4 rfl ?_
  refine V_iconst (v := nI 3) d_Cd_opAt_5 (by decide +kernel) ?_
  refine V_imulN d_Cd_opAt_6 ?_
  refine V_iaload (j := i * 3) d_Cd_opAt_7 rfl h2 rfl (by omega) (by omega) ?_
  exact V_ireturn d_Cd_opAt_8 rfl (by rw [h3 (i * 3) (by omega)]; exact hQ)
theorem c_Cd_firstOperandAt {Γ : pmE} {G : pmG} {n : Nat} {Q : pmPost} {a len i : Nat} {c : Nat → Int32} (h : isCode G a len c) (hi : i < len) (hQ : Q (some (.int (c (i * 3 + 1)))) n G) : pV Γ m_Cd_firstOperandAt 0 [some (.ref a), some (.int (nI i))] [] n G 0 0 Q := by
  obtain ⟨h0, h1, f, h2, h3⟩ := h
  refine V_aload_n d_Cd_firstOperandAt_0 rfl ?_
  refine V_getf d_Cd_firstOperandAt_1 f_Cd_11 h1 rfl ?_
  refine V_iload_n d_Cd_firstOperandAt_4 rfl ?_
  refine V_iconst (v := nI 3) d_Cd_firstOperandAt_5 (by decide +kernel) ?_
  refine V_imulN d_Cd_firstOperandAt_6 ?_
  refine V_iconst (v := nI 1) d_Cd_firstOperandAt_7 (by decide +kernel) ?_
  refine V_iaddN d_Cd_firstOperandAt_8 ?_
  refine V_iaload (j := i * 3 + 1) d_Cd_firstOperandAt_9 rfl h2 rfl (by omega) (by omega) ?_
  exact V_ireturn d_Cd_firstOperandAt_10 rfl (by rw [h3 (i * 3 + 1) (by omega)]; exact hQ)
theorem c_Cd_secondOperandAt {Γ : pmE} {G : pmG} {n : Nat} {Q : pmPost} {a len i : Nat} {c : Nat → Int32} (h : isCode G a len c) (hi : i < len) (hQ : Q (some (.int (c (i * 3 + 2)))) n G) : pV Γ m_Cd_secondOperandAt 0 [some (.ref a), some (.int (nI i))] [] n G 0 0 Q := by
  obtain ⟨h0, h1, f, h2, h3⟩ := h
  refine V_aload_n d_Cd_secondOperandAt_0 rfl ?_
  refine V_getf d_Cd_secondOperandAt_1 f_Cd_11 h1 rfl ?_
  refine V_iload_n d_Cd_secondOperandAt_4 rfl ?_
  refine V_iconst (v := nI 3) d_Cd_secondOperandAt_5 (by decide +kernel) ?_
  refine V_imulN d_Cd_secondOperandAt_6 ?_
  refine V_iconst (v := nI 2) d_Cd_secondOperandAt_7 (by decide +kernel) ?_
  refine V_iaddN d_Cd_secondOperandAt_8 ?_
  refine V_iaload (j := i * 3 + 2) d_Cd_secondOperandAt_9 rfl h2 rfl (by omega) (by omega) ?_
  exact V_ireturn d_Cd_secondOperandAt_10 rfl (by rw [h3 (i * 3 + 2) (by omega)]; exact hQ)
def cd_rs (v : Int32) (c : Nat → Int32) (i : Nat) : Nat → Int32 := fun k => if k < 3 * i ∧ k % 3 = 1 ∧ c (k - 1) = 0 then c k + v else c k
theorem cd_rs_0 (v : Int32) (c : Nat → Int32) : cd_rs v c 0 = c := by
  funext k
  simp [cd_rs]
theorem cd_rs_out (v : Int32) (c : Nat → Int32) {i k : Nat} (h : 3 * i ≤ k) : cd_rs v c i k = c k := by
  unfold cd_rs
  rw [if_neg (by omega)]
theorem cd_rs_t (v : Int32) (c : Nat → Int32) {i : Nat} (h : c (i * 3) = 0) (k : Nat) : upd (cd_rs v c i) (i * 3 + 1) (c (i * 3 + 1) + v) k = cd_rs v c (i + 1) k := by
  by_cases hk : k = i * 3 + 1
  · subst hk
    rw [pk_us]
    unfold cd_rs
    rw [if_pos ⟨by omega, by omega, by simpa using h⟩]
  · rw [pk_un hk]
    unfold cd_rs
    by_cases h1 : k < 3 * i ∧ k % 3 = 1 ∧ c (k - 1) = 0
    · rw [if_pos h1, if_pos ⟨by omega, h1.2⟩]
    · rw [if_neg h1, if_neg (fun h2 => h1 ⟨by omega, h2.2⟩)]
theorem cd_rs_f (v : Int32) (c : Nat → Int32) {i : Nat} (h : ¬ c (i * 3) = 0) (k : Nat) : cd_rs v c i k = cd_rs v c (i + 1) k := by
  unfold cd_rs
  by_cases h1 : k < 3 * i ∧ k % 3 = 1 ∧ c (k - 1) = 0
  · rw [if_pos h1, if_pos ⟨by omega, h1.2⟩]
  · rw [if_neg h1, if_neg (fun h2 => h1 ⟨by
      rcases Nat.lt_or_ge k (3 * i) with q | q
      · exact q
      · exact absurd (by rw [show i * 3 = k - 1 by omega]; exact h2.2.2) h, h2.2⟩)]
set_option maxHeartbeats 1000000 in
theorem c_Cd_raiseAdditions {Γ : pmE} {G : pmG} {n : Nat} {Q : pmPost} {a len : Nat} {c : Nat → Int32} {v : Int32} (h : isCode G a len c) (hQ : ∀ G', isCode G' a len (cd_rs v c len) → (∀ q, q ≠ a + 1 → G' q = G q) → Q none n G') : pV Γ m_Cd_raiseAdditions 0 [some (.ref a), some (.int v), none] [] n G 0 0 Q := by
  have loop : ∀ (d i : Nat), i ≤ len → len - i < d → ∀ G1 : pmG, isCode G1 a len (cd_rs v c i) → (∀ q, q ≠ a + 1 → G1 q = G q) → pV Γ m_Cd_raiseAdditions 2 [some (.ref a), some (.int v), some (.int (nI i))] [] n G1 0 0 Q := by
    intro d
    induction d with
    | zero => intro i _ hd; exact absurd hd (by omega)
    | succ d ih =>
      intro i hi hd G1 hc ho
      obtain ⟨h0, h1, f, h2, h3⟩ := hc
      refine V_iload_n d_Cd_raiseAdditions_2 rfl ?_
      refine V_aload_n d_Cd_raiseAdditions_3 rfl ?_
      refine V_getf d_Cd_raiseAdditions_4 f_Cd_15 h1 rfl ?_
      refine V_icmp_geN (tgt := 38) d_Cd_raiseAdditions_7 (by decide) (by omega) (by omega) (fun hb7 => ?_) (fun hb7 => ?_)
      · exact V_return d_Cd_raiseAdditions_38 rfl (hQ G1 (isCode.congr ⟨h0, h1, f, h2, h3⟩ (fun k hk => by rw [show i = len by omega])) ho)
      · refine V_aload_n d_Cd_raiseAdditions_10 rfl ?_
        refine V_iload_n d_Cd_raiseAdditions_11 rfl ?_
        refine V_callV (As := [.int (nI i)]) (rest := []) (lo' := [some (.ref a), some (.int (nI i))]) (bc1 := 0) (bs1 := 0) (bc' := 0) (bs' := 0) d_Cd_raiseAdditions_12 k_Cd_raiseAdditions_25 h1 rfl rfl rfl rfl (by rfl) (by rfl) ?_
        refine c_Cd_opAt (len := len) (i := i) (c := cd_rs v c i) ⟨h0, h1, f, h2, h3⟩ (by omega) ?_
        show pV Γ m_Cd_raiseAdditions 15 [some (.ref a), some (.int v), some (.int (nI i))] [.int ((cd_rs v c i (i * 3)))] _ G1 0 0 Q
        rw [cd_rs_out v c (by omega : 3 * i ≤ i * 3)]
        refine V_if_ne (tgt := 32) d_Cd_raiseAdditions_15 (by decide) (fun hb15 => ?_) (fun hb15 => ?_)
        · refine V_iincN d_Cd_raiseAdditions_32 rfl ?_
          show pV Γ _ _ [some (.ref a), some (.int v), some (.int (nI (i + 1)))] _ _ _ _ _ _
          refine V_goto (tgt := 2) d_Cd_raiseAdditions_35 (by decide) ?_
          exact ih (i + 1) (by omega) (by omega) G1 (isCode.congr ⟨h0, h1, f, h2, h3⟩ (fun k _ => cd_rs_f v c hb15 k)) ho
        · refine V_aload_n d_Cd_raiseAdditions_18 rfl ?_
          refine V_getf d_Cd_raiseAdditions_19 f_Cd_11 h1 rfl ?_
          refine V_iload_n d_Cd_raiseAdditions_22 rfl ?_
          refine V_iconst (v := nI 3) d_Cd_raiseAdditions_23 (by decide +kernel) ?_
          refine V_imulN d_Cd_raiseAdditions_24 ?_
          refine V_iconst (v := nI 1) d_Cd_raiseAdditions_25 (by decide +kernel) ?_
          refine V_iaddN d_Cd_raiseAdditions_26 ?_
          refine V_dup2 d_Cd_raiseAdditions_27 rfl rfl ?_
          refine V_iaload (j := i * 3 + 1) d_Cd_raiseAdditions_28 rfl h2 rfl (by omega) (by omega) ?_
          refine V_iload_n d_Cd_raiseAdditions_29 rfl ?_
          refine V_iadd d_Cd_raiseAdditions_30 ?_
          refine V_iastore (j := i * 3 + 1) d_Cd_raiseAdditions_31 rfl h2 rfl (by omega) (by omega) (fun G2 h2z ho2 => ?_)
          have h2 := h2z
          have h1 := (ho2 _ (by omega)).trans h1
          refine V_iincN d_Cd_raiseAdditions_32 rfl ?_
          show pV Γ _ _ [some (.ref a), some (.int v), some (.int (nI (i + 1)))] _ _ _ _ _ _
          refine V_goto (tgt := 2) d_Cd_raiseAdditions_35 (by decide) ?_
          refine ih (i + 1) (by omega) (by omega) G2 (isCode.congr ⟨h0, h1, _, h2, fun k hk => rfl⟩ (fun k hk => ?_)) (fun q g => (ho2 q g).trans (ho q g))
          rw [← cd_rs_t v c hb15 k]
          unfold upd
          split
          · rw [h3 _ (by omega), cd_rs_out v c (by omega)]
          · exact h3 k hk
  refine V_iconst (v := nI 0) d_Cd_raiseAdditions_0 (by decide +kernel) ?_
  refine V_istore_n d_Cd_raiseAdditions_1 (Nat.le_of_ble_eq_true rfl) ?_
  show pV Γ _ _ [some (.ref a), some (.int v), some (.int (nI 0))] _ _ _ _ _ _
  exact loop (len + 1) 0 (by omega) (by omega) G (isCode.congr h (fun k _ => by rw [cd_rs_0])) (fun q _ => rfl)
