/-! Method and Frame. -/
theorem pQ_t {Q : pmPost} {n : Nat} {G : pmG} {p : Prop} (hQ : Q (some (.int (pB p))) n G) (h : p) : Q (some (.int (nI 1))) n G := by rw [pB_t h] at hQ; exact hQ
theorem pQ_f {Q : pmPost} {n : Nat} {G : pmG} {p : Prop} (hQ : Q (some (.int (pB p))) n G) (h : ¬ p) : Q (some (.int (nI 0))) n G := by rw [pB_f h] at hQ; exact hQ
theorem c_Mt_init {Γ : pmE} {G : pmG} {n : Nat} {Q : pmPost} (h1 : G n = some (.inr (kMt, [.int 0, .int 0, .null]))) (hQ : ∀ G', isMth G' n (nI 0) (nI 0) 0 (fun _ => 0) → (∀ q, (q < n ∨ n + 3 ≤ q) → G' q = G q) → Q none (n + 3) G') : pV Γ m_Mt_init 0 [some (.ref n)] [] (n + 1) G 2 20 Q := by
  refine V_aload_n d_Mt_init_0 rfl ?_
  refine V_objInit d_Mt_init_1 w_35 w_21 w_22 (by decide +kernel) rfl ?_
  refine V_aload_n d_Mt_init_4 rfl ?_
  refine V_iconst (v := nI 0) d_Mt_init_5 (by decide +kernel) ?_
  refine V_putf d_Mt_init_6 f_Mt_7 p_Mt_7 h1 rfl rfl rfl (fun G1 h1z ho1 => ?_)
  have h1 : G1 n = some (.inr (kMt, [.int (nI 0), .int (nI 0), .null])) := h1z
  refine V_aload_n d_Mt_init_9 rfl ?_
  refine V_iconst (v := nI 0) d_Mt_init_10 (by decide +kernel) ?_
  refine V_putf d_Mt_init_11 f_Mt_13 p_Mt_13 h1 rfl rfl rfl (fun G2 h1z ho2 => ?_)
  have h1 : G2 n = some (.inr (kMt, [.int (nI 0), .int (nI 0), .null])) := h1z
  refine V_aload_n d_Mt_init_14 rfl ?_
  refine V_new d_Mt_init_15 n_Mt_16 (by rfl) (by rfl) (fun G3 hn3 ho3 => ?_)
  have hn3 : G3 (n + 1) = some (.inr (kCd, [.null, .int 0])) := hn3
  show pV Γ _ _ _ (.ref (n + 1) :: _) (n + 2) _ _ _ _
  have h1 := (ho3 _ (by omega)).trans h1
  refine V_dup d_Mt_init_18 rfl ?_
  refine V_callI (As := []) (rest := [.ref (n + 1), .ref n]) (lo' := [some (.ref (n + 1))]) (bc1 := 1) (bs1 := 18) (bc' := 0) (bs' := 0) d_Mt_init_19 k_Mt_init_18 rfl rfl rfl rfl (by rfl) (by rfl) ?_
  refine c_Cd_init hn3 (fun G4 hc ho4 => ?_)
  have h1 := (ho4 _ (by omega) (by omega)).trans h1
  show pV Γ m_Mt_init 22 [some (.ref n)] [.ref (n + 1), .ref n] _ G4 0 0 Q
  refine V_putF d_Mt_init_22 p_Mt_19 rfl h1 rfl rfl rfl (fun G5 h1z ho5 => ?_)
  have h1 : G5 n = some (.inr (kMt, [.int (nI 0), .int (nI 0), .ref (n + 1)])) := h1z
  have hc := hc.kept (fun q g1 g2 => ho5 q (by omega))
  exact V_return d_Mt_init_25 rfl (hQ G5 ⟨h1, hc⟩ (fun q hq => by rw [ho5 q (by omega), ho4 q (by omega) (by omega), ho3 q (by omega), ho2 q (by omega), ho1 q (by omega)]))
theorem c_Mt_become {Γ : pmE} {G : pmG} {n : Nat} {Q : pmPost} {a b len len2 : Nat} {nm fl nm2 fl2 : Int32} {c c2 : Nat → Int32} (h : isMth G a nm fl len c) (j : isMth G b nm2 fl2 len2 c2) (hab : a + 2 < b ∨ b + 2 < a) (hQ : ∀ G', isMth G' a nm2 fl2 len2 c2 → (∀ q, (q < a ∨ a + 3 ≤ q) → G' q = G q) → Q none n G') : pV Γ m_Mt_become 0 [some (.ref a), some (.ref b)] [] n G 0 0 Q := by
  obtain ⟨h1, hc⟩ := h
  obtain ⟨j1, jc⟩ := j
  refine V_aload_n d_Mt_become_0 rfl ?_
  refine V_aload_n d_Mt_become_1 rfl ?_
  refine V_getf d_Mt_become_2 f_Mt_7 j1 rfl ?_
  refine V_putf d_Mt_become_5 f_Mt_7 p_Mt_7 h1 rfl rfl rfl (fun G1 h1z ho1 => ?_)
  have h1 : G1 a = some (.inr (kMt, [.int nm2, .int fl, .ref (a + 1)])) := h1z
  have hc := hc.kept (fun q g1 g2 => ho1 q (by omega))
  have j1 := (ho1 _ (by omega)).trans j1
  have jc := jc.kept (fun q g1 g2 => ho1 q (by omega))
  refine V_aload_n d_Mt_become_8 rfl ?_
  refine V_aload_n d_Mt_become_9 rfl ?_
  refine V_getf d_Mt_become_10 f_Mt_13 j1 rfl ?_
  refine V_putf d_Mt_become_13 f_Mt_13 p_Mt_13 h1 rfl rfl rfl (fun G2 h1z ho2 => ?_)
  have h1 : G2 a = some (.inr (kMt, [.int nm2, .int fl2, .ref (a + 1)])) := h1z
  have hc := hc.kept (fun q g1 g2 => ho2 q (by omega))
  have j1 := (ho2 _ (by omega)).trans j1
  have jc := jc.kept (fun q g1 g2 => ho2 q (by omega))
  refine V_aload_n d_Mt_become_16 rfl ?_
  refine V_getf d_Mt_become_17 f_Mt_19 h1 rfl ?_
  refine V_aload_n d_Mt_become_20 rfl ?_
  refine V_getf d_Mt_become_21 f_Mt_19 j1 rfl ?_
  refine V_callV (As := [.ref (b + 1)]) (rest := []) (lo' := [some (.ref (a + 1)), some (.ref (b + 1))]) (bc1 := 0) (bs1 := 0) (bc' := 0) (bs' := 0) d_Mt_become_24 k_Mt_become_23 hc.2.1 rfl rfl rfl rfl (by rfl) (by rfl) ?_
  refine c_Cd_become hc jc (by omega) (fun G3 hc ho3 => ?_)
  have h1 := (ho3 _ (by omega) (by omega)).trans h1
  show pV Γ m_Mt_become 27 [some (.ref a), some (.ref b)] [] _ G3 0 0 Q
  exact V_return d_Mt_become_27 rfl (hQ G3 ⟨h1, hc⟩ (fun q hq => by rw [ho3 q (by omega) (by omega), ho2 q (by omega), ho1 q (by omega)]))
def isFrame (G : pmG) (a : Nat) (cl ed : Int32) (len : Nat) (c : Nat → Int32) (pl : Nat) (sm : Int32) : Prop := G a = some (.inr (kFr, [.int cl, .int ed, .ref (a + 1), .int (nI pl), .int sm])) ∧ isCode G (a + 1) len c
def anFrame (G : pmG) (a : Nat) : Prop := ∃ cl ed len c pl sm, isFrame G a cl ed len c pl sm
theorem isFrame.kept {G G' : pmG} {a : Nat} {cl ed : Int32} {len : Nat} {c : Nat → Int32} {pl : Nat} {sm : Int32} (h : isFrame G a cl ed len c pl sm) (hq : ∀ q, a ≤ q → q < a + 3 → G' q = G q) : isFrame G' a cl ed len c pl sm :=
  ⟨by rw [hq a (by omega) (by omega)]; exact h.1, h.2.kept fun q h1 h2 => hq q (by omega) (by omega)⟩
theorem anFrame.kept {G G' : pmG} {a : Nat} (h : anFrame G a) (hq : ∀ q, a ≤ q → q < a + 3 → G' q = G q) : anFrame G' a := by
  obtain ⟨cl, ed, len, c, pl, sm, h⟩ := h
  exact ⟨cl, ed, len, c, pl, sm, h.kept hq⟩
theorem anMth.kept {G G' : pmG} {a : Nat} (h : anMth G a) (hq : ∀ q, a ≤ q → q < a + 3 → G' q = G q) : anMth G' a := by
  obtain ⟨nm, fl, len, c, h⟩ := h
  exact ⟨nm, fl, len, c, h.kept hq⟩
theorem c_Fr_init {Γ : pmE} {G : pmG} {n : Nat} {Q : pmPost} (h1 : G n = some (.inr (kFr, [.int 0, .int 0, .null, .int 0, .int 0]))) (hQ : ∀ G', anFrame G' n → (∀ q, (q < n ∨ n + 3 ≤ q) → G' q = G q) → Q none (n + 3) G') : pV Γ m_Fr_init 0 [some (.ref n)] [] (n + 1) G 2 20 Q := by
  refine V_aload_n d_Fr_init_0 rfl ?_
  refine V_objInit d_Fr_init_1 w_195 w_21 w_22 (by decide +kernel) rfl ?_
  refine V_aload_n d_Fr_init_4 rfl ?_
  refine V_iconst (v := (-1)) d_Fr_init_5 (by decide +kernel) ?_
  refine V_putf d_Fr_init_6 f_Fr_9 p_Fr_9 h1 rfl rfl rfl (fun G1 h1z ho1 => ?_)
  have h1 : G1 n = some (.inr (kFr, [.int ((-1)), .int (nI 0), .null, .int (nI 0), .int (nI 0)])) := h1z
  refine V_aload_n d_Fr_init_9 rfl ?_
  refine V_iconst (v := nI 0) d_Fr_init_10 (by decide +kernel) ?_
  refine V_putf d_Fr_init_11 f_Fr_15 p_Fr_15 h1 rfl rfl rfl (fun G2 h1z ho2 => ?_)
  have h1 : G2 n = some (.inr (kFr, [.int ((-1)), .int (nI 0), .null, .int (nI 0), .int (nI 0)])) := h1z
  refine V_aload_n d_Fr_init_14 rfl ?_
  refine V_new d_Fr_init_15 n_Fr_18 (by rfl) (by rfl) (fun G3 hn3 ho3 => ?_)
  have hn3 : G3 (n + 1) = some (.inr (kCd, [.null, .int 0])) := hn3
  show pV Γ _ _ _ (.ref (n + 1) :: _) (n + 2) _ _ _ _
  have h1 := (ho3 _ (by omega)).trans h1
  refine V_dup d_Fr_init_18 rfl ?_
  refine V_callI (As := []) (rest := [.ref (n + 1), .ref n]) (lo' := [some (.ref (n + 1))]) (bc1 := 1) (bs1 := 18) (bc' := 0) (bs' := 0) d_Fr_init_19 k_Fr_init_20 rfl rfl rfl rfl (by rfl) (by rfl) ?_
  refine c_Cd_init hn3 (fun G4 hc ho4 => ?_)
  have h1 := (ho4 _ (by omega) (by omega)).trans h1
  show pV Γ m_Fr_init 22 [some (.ref n)] [.ref (n + 1), .ref n] _ G4 0 0 Q
  refine V_putF d_Fr_init_22 p_Fr_21 rfl h1 rfl rfl rfl (fun G5 h1z ho5 => ?_)
  have h1 : G5 n = some (.inr (kFr, [.int ((-1)), .int (nI 0), .ref (n + 1), .int (nI 0), .int (nI 0)])) := h1z
  have hc := hc.kept (fun q g1 g2 => ho5 q (by omega))
  refine V_aload_n d_Fr_init_25 rfl ?_
  refine V_iconst (v := nI 0) d_Fr_init_26 (by decide +kernel) ?_
  refine V_putf d_Fr_init_27 f_Fr_25 p_Fr_25 h1 rfl rfl rfl (fun G6 h1z ho6 => ?_)
  have h1 : G6 n = some (.inr (kFr, [.int ((-1)), .int (nI 0), .ref (n + 1), .int (nI 0), .int (nI 0)])) := h1z
  have hc := hc.kept (fun q g1 g2 => ho6 q (by omega))
  refine V_aload_n d_Fr_init_30 rfl ?_
  refine V_iconst (v := nI 0) d_Fr_init_31 (by decide +kernel) ?_
  refine V_putf d_Fr_init_32 f_Fr_28 p_Fr_28 h1 rfl rfl rfl (fun G7 h1z ho7 => ?_)
  have h1 : G7 n = some (.inr (kFr, [.int ((-1)), .int (nI 0), .ref (n + 1), .int (nI 0), .int (nI 0)])) := h1z
  have hc := hc.kept (fun q g1 g2 => ho7 q (by omega))
  exact V_return d_Fr_init_35 rfl (hQ G7 ⟨_, _, _, _, _, _, h1, hc⟩ (fun q hq => by rw [ho7 q (by omega), ho6 q (by omega), ho5 q (by omega), ho4 q (by omega) (by omega), ho3 q (by omega), ho2 q (by omega), ho1 q (by omega)]))
theorem c_Fr_begin {Γ : pmE} {G : pmG} {n : Nat} {Q : pmPost} {a b len2 : Nat} {c2 : Nat → Int32} {x y : Int32} (h : anFrame G a) (jc : isCode G b len2 c2) (hab : a + 2 < b ∨ b + 1 < a) (hQ : ∀ G', isFrame G' a x y len2 c2 0 (nI 0) → (∀ q, (q < a ∨ a + 3 ≤ q) → G' q = G q) → Q none n G') : pV Γ m_Fr_begin 0 [some (.ref a), some (.int x), some (.int y), some (.ref b)] [] n G 0 0 Q := by
  obtain ⟨cl, ed, len, c, pl, sm, h1, hc⟩ := h
  refine V_aload_n d_Fr_begin_0 rfl ?_
  refine V_iload_n d_Fr_begin_1 rfl ?_
  refine V_putf d_Fr_begin_2 f_Fr_9 p_Fr_9 h1 rfl rfl rfl (fun G1 h1z ho1 => ?_)
  have h1 : G1 a = some (.inr (kFr, [.int x, .int ed, .ref (a + 1), .int (nI pl), .int sm])) := h1z
  have hc := hc.kept (fun q g1 g2 => ho1 q (by omega))
  have jc := jc.kept (fun q g1 g2 => ho1 q (by omega))
  refine V_aload_n d_Fr_begin_5 rfl ?_
  refine V_iload_n d_Fr_begin_6 rfl ?_
  refine V_putf d_Fr_begin_7 f_Fr_15 p_Fr_15 h1 rfl rfl rfl (fun G2 h1z ho2 => ?_)
  have h1 : G2 a = some (.inr (kFr, [.int x, .int y, .ref (a + 1), .int (nI pl), .int sm])) := h1z
  have hc := hc.kept (fun q g1 g2 => ho2 q (by omega))
  have jc := jc.kept (fun q g1 g2 => ho2 q (by omega))
  refine V_aload_n d_Fr_begin_10 rfl ?_
  refine V_getf d_Fr_begin_11 f_Fr_21 h1 rfl ?_
  refine V_aload_n d_Fr_begin_14 rfl ?_
  refine V_callV (As := [.ref b]) (rest := []) (lo' := [some (.ref (a + 1)), some (.ref b)]) (bc1 := 0) (bs1 := 0) (bc' := 0) (bs' := 0) d_Fr_begin_15 k_Fr_begin_31 hc.2.1 rfl rfl rfl rfl (by rfl) (by rfl) ?_
  refine c_Cd_become hc jc (by omega) (fun G3 hc ho3 => ?_)
  have h1 := (ho3 _ (by omega) (by omega)).trans h1
  have jc := jc.kept (fun q g1 g2 => ho3 q (by omega) (by omega))
  show pV Γ m_Fr_begin 18 [some (.ref a), some (.int x), some (.int y), some (.ref b)] [] _ G3 0 0 Q
  refine V_aload_n d_Fr_begin_18 rfl ?_
  refine V_iconst (v := nI 0) d_Fr_begin_19 (by decide +kernel) ?_
  refine V_putf d_Fr_begin_20 f_Fr_25 p_Fr_25 h1 rfl rfl rfl (fun G4 h1z ho4 => ?_)
  have h1 : G4 a = some (.inr (kFr, [.int x, .int y, .ref (a + 1), .int (nI 0), .int sm])) := h1z
  have hc := hc.kept (fun q g1 g2 => ho4 q (by omega))
  have jc := jc.kept (fun q g1 g2 => ho4 q (by omega))
  refine V_aload_n d_Fr_begin_23 rfl ?_
  refine V_iconst (v := nI 0) d_Fr_begin_24 (by decide +kernel) ?_
  refine V_putf d_Fr_begin_25 f_Fr_28 p_Fr_28 h1 rfl rfl rfl (fun G5 h1z ho5 => ?_)
  have h1 : G5 a = some (.inr (kFr, [.int x, .int y, .ref (a + 1), .int (nI 0), .int (nI 0)])) := h1z
  have hc := hc.kept (fun q g1 g2 => ho5 q (by omega))
  have jc := jc.kept (fun q g1 g2 => ho5 q (by omega))
  exact V_return d_Fr_begin_28 rfl (hQ G5 ⟨h1, hc⟩ (fun q hq => by rw [ho5 q (by omega), ho4 q (by omega), ho3 q (by omega) (by omega), ho2 q (by omega), ho1 q (by omega)]))
