/-! The reference: the draft's operations. -/
theorem isRow.addI {f : Nat → Int32} {D : Dfn} {x : Int32} (h : isRow f 0 D) (hn : dNi D < 3) : isRow (upd (upd f (107 * 0 + (6 + dNi D)) x) (107 * 0 + 5) (nI (dNi D + 1))) 0 (dAddI D x) := by
  obtain ⟨⟨o1, o2, o3, o4⟩, h1, h2, h3, h4, h5, h6, h7⟩ := h
  refine ⟨⟨(by show dNi D + 1 ≤ 3; omega), o2, o3, o4⟩, fun i hi => by rw [pk_un (by omega), pk_un (by omega)]; exact h1 i hi, by rw [pk_us]; rfl, fun i hi => ?_, by rw [pk_un (by omega), pk_un (by omega)]; exact h4, fun i hi => ?_, by rw [pk_un (by omega), pk_un (by omega)]; exact h6, fun j hj => ?_⟩
  · have hi' : i < dNi D + 1 := hi
    rw [pk_un (by omega)]
    show _ = upd (dI D) (dNi D) x i
    by_cases e : i = dNi D
    · rw [e, pk_us, pk_us]
    · rw [pk_un (by omega), pk_un e]; exact h3 i (by omega)
  · have hi' : i < 3 * dNf D := hi
    rw [pk_un (by omega), pk_un (by omega)]; exact h5 i hi
  · obtain ⟨g1, g2, g3, g4⟩ := h7 j hj
    exact ⟨by rw [pk_un (by omega), pk_un (by omega)]; exact g1, by rw [pk_un (by omega), pk_un (by omega)]; exact g2, by rw [pk_un (by omega), pk_un (by omega)]; exact g3, fun i hi => by rw [pk_un (by omega), pk_un (by omega)]; exact g4 i hi⟩
theorem isRow.addF {f : Nat → Int32} {D : Dfn} {x y z : Int32} (h : isRow f 0 D) (hn : dNf D < 4) : isRow (upd (upd (upd (upd f (107 * 0 + (10 + 3 * dNf D)) x) (107 * 0 + (11 + 3 * dNf D)) y) (107 * 0 + (12 + 3 * dNf D)) z) (107 * 0 + 9) (nI (dNf D + 1))) 0 (dAddF D x y z) := by
  obtain ⟨⟨o1, o2, o3, o4⟩, h1, h2, h3, h4, h5, h6, h7⟩ := h
  refine ⟨⟨o1, (by show dNf D + 1 ≤ 4; omega), o3, o4⟩, fun i hi => by rw [pk_un (by omega), pk_un (by omega), pk_un (by omega), pk_un (by omega)]; exact h1 i hi, by rw [pk_un (by omega), pk_un (by omega), pk_un (by omega), pk_un (by omega)]; exact h2, fun i hi => ?_, by rw [pk_us]; rfl, fun i hi => ?_, by rw [pk_un (by omega), pk_un (by omega), pk_un (by omega), pk_un (by omega)]; exact h6, fun j hj => ?_⟩
  · have hi' : i < dNi D := hi
    rw [pk_un (by omega), pk_un (by omega), pk_un (by omega), pk_un (by omega)]; exact h3 i hi'
  · have hi' : i < 3 * (dNf D + 1) := hi
    rw [pk_un (by omega)]
    show _ = upd (upd (upd (dF D) (dNf D * 3) x) (dNf D * 3 + 1) y) (dNf D * 3 + 2) z i
    by_cases e : i = dNf D * 3 + 2
    · rw [e, pk_us, show 107 * 0 + (10 + (dNf D * 3 + 2)) = 107 * 0 + (12 + 3 * dNf D) by omega, pk_us]
    · rw [pk_un e, pk_un (by omega)]
      by_cases e : i = dNf D * 3 + 1
      · rw [e, pk_us, show 107 * 0 + (10 + (dNf D * 3 + 1)) = 107 * 0 + (11 + 3 * dNf D) by omega, pk_us]
      · rw [pk_un e, pk_un (by omega)]
        by_cases e : i = dNf D * 3
        · rw [e, pk_us, show 107 * 0 + (10 + (dNf D * 3)) = 107 * 0 + (10 + 3 * dNf D) by omega, pk_us]
        · rw [pk_un e, pk_un (by omega)]; exact h5 i (by omega)
  · obtain ⟨g1, g2, g3, g4⟩ := h7 j hj
    exact ⟨by rw [pk_un (by omega), pk_un (by omega), pk_un (by omega), pk_un (by omega)]; exact g1, by rw [pk_un (by omega), pk_un (by omega), pk_un (by omega), pk_un (by omega)]; exact g2, by rw [pk_un (by omega), pk_un (by omega), pk_un (by omega), pk_un (by omega)]; exact g3, fun i hi => by rw [pk_un (by omega), pk_un (by omega), pk_un (by omega), pk_un (by omega)]; exact g4 i hi⟩
theorem isRow.addM {f : Nat → Int32} {D : Dfn} {x y : Int32} (h : isRow f 0 D) (hn : dNm D < 4) : isRow (upd (upd (upd (upd f (107 * 0 + (23 + 21 * dNm D)) x) (107 * 0 + (23 + 21 * dNm D + 1)) y) (107 * 0 + (23 + 21 * dNm D + 2)) (nI 0)) (107 * 0 + 22) (nI (dNm D + 1))) 0 (dAddM D x y) := by
  obtain ⟨⟨o1, o2, o3, o4⟩, h1, h2, h3, h4, h5, h6, h7⟩ := h
  refine ⟨⟨o1, o2, (by show dNm D + 1 ≤ 4; omega), fun j hj => ?_⟩, fun i hi => by rw [pk_un (by omega), pk_un (by omega), pk_un (by omega), pk_un (by omega)]; exact h1 i hi, by rw [pk_un (by omega), pk_un (by omega), pk_un (by omega), pk_un (by omega)]; exact h2, fun i hi => ?_, by rw [pk_un (by omega), pk_un (by omega), pk_un (by omega), pk_un (by omega)]; exact h4, fun i hi => ?_, by rw [pk_us]; rfl, fun j hj => ?_⟩
  · have hj' : j < dNm D + 1 := hj
    show va_up (dL D) (dNm D) 0 j ≤ 6
    by_cases e : j = dNm D
    · rw [e, va_up_self]; omega
    · rw [va_up_ne _ _ e]; exact o4 j (by omega)
  · have hi' : i < dNi D := hi
    rw [pk_un (by omega), pk_un (by omega), pk_un (by omega), pk_un (by omega)]; exact h3 i hi'
  · have hi' : i < 3 * dNf D := hi
    rw [pk_un (by omega), pk_un (by omega), pk_un (by omega), pk_un (by omega)]; exact h5 i hi'
  · have hj' : j < dNm D + 1 := hj
    show _ = upd (dN D) (dNm D) x j ∧ _ = upd (dG D) (dNm D) y j ∧ _ = nI (va_up (dL D) (dNm D) 0 j) ∧ ∀ k, k < 3 * (va_up (dL D) (dNm D) 0 j) → _ = dC D j k
    by_cases e : j = dNm D
    · rw [e, pk_us, pk_us, va_up_self]
      exact ⟨by rw [pk_un (by omega), pk_un (by omega), pk_un (by omega), pk_us], by rw [pk_un (by omega), pk_un (by omega), pk_us], by rw [pk_un (by omega), pk_us], fun k hk => absurd hk (by omega)⟩
    · rw [pk_un e, pk_un e, va_up_ne _ _ e]
      obtain ⟨g1, g2, g3, g4⟩ := h7 j (by omega)
      have := o4 j (by omega)
      exact ⟨by rw [pk_un (by omega), pk_un (by omega), pk_un (by omega), pk_un (by omega)]; exact g1, by rw [pk_un (by omega), pk_un (by omega), pk_un (by omega), pk_un (by omega)]; exact g2, by rw [pk_un (by omega), pk_un (by omega), pk_un (by omega), pk_un (by omega)]; exact g3, fun i hi => by rw [pk_un (by omega), pk_un (by omega), pk_un (by omega), pk_un (by omega)]; exact g4 i hi⟩
theorem row_blk {g : Nat → Int32} (hg : ∀ k, k < 107 → g k = nI 0) : isRow (upd (upd g (107 * 0 + 0) (nI 1)) (107 * 0 + 2) (-1)) 0 dBlk := by
  refine ⟨⟨Nat.zero_le _, Nat.zero_le _, Nat.zero_le _, fun j hj => absurd hj (Nat.not_lt_zero _)⟩, fun k hk => ?_, by rw [pk_un (by omega), pk_un (by omega)]; exact hg _ (by omega), fun k hk => absurd hk (Nat.not_lt_zero _), by rw [pk_un (by omega), pk_un (by omega)]; exact hg _ (by omega), fun k hk => absurd hk (Nat.not_lt_zero _), by rw [pk_un (by omega), pk_un (by omega)]; exact hg _ (by omega), fun j hj => absurd hj (Nat.not_lt_zero _)⟩
  show _ = if k = 0 then nI 1 else if k = 2 then -1 else nI 0
  by_cases e : k = 2
  · subst e; rw [pk_us]; rfl
  · by_cases e0 : k = 0
    · subst e0; rw [pk_un (by omega), pk_us]; rfl
    · rw [pk_un (by omega), pk_un (by omega), if_neg e0, if_neg e]; exact hg _ (by omega)
set_option maxHeartbeats 1000000 in
theorem c_Mo_blank {Γ : pmE} {G : pmG} {n : Nat} {Q : pmPost} {m : Nat} {ch ba : Int32} {f : Nat → Int32} (hH : G m = some (.inr (kMo, moFs m ch ba))) (hF : G (m + 1) = some (.inl (0, 4387, .inl f))) (hQ : ∀ G' g, G' m = some (.inr (kMo, moFs m (-1) ba)) → G' (m + 1) = some (.inl (0, 4387, .inl g)) → isRow g 0 dBlk → (∀ x, 107 ≤ x → g x = f x) → (∀ q, (q < m ∨ m + 2 ≤ q) → G' q = G q) → Q (none) n G') : pV Γ m_Mo_blank 0 [some (.ref m), none] [] n G 0 0 Q := by
  have rest : ∀ {w1 : Option Value} (G1 : pmG) (g : Nat → Int32), G1 m = some (.inr (kMo, moFs m ch ba)) → G1 (m + 1) = some (.inl (0, 4387, .inl g)) → (∀ k, k < 107 → g k = nI 0) → (∀ x, 107 ≤ x → g x = f x) → (∀ q, q ≠ m + 1 → G1 q = G q) → pV Γ m_Mo_blank 21 [some (.ref m), w1] [] n G1 0 0 Q := by
    intro w1 G1 g hH hF hg hx ho
    refine V_aload_n d_Mo_blank_21 rfl ?_
    refine V_iconst (v := nI 0) d_Mo_blank_22 (by decide +kernel) ?_
    refine V_iconst (v := nI 0) d_Mo_blank_23 (by decide +kernel) ?_
    refine V_iconst (v := nI 1) d_Mo_blank_24 (by decide +kernel) ?_
    refine V_callV (As := [.int (nI 0), .int (nI 0), .int (nI 1)]) (rest := []) (lo' := [some (.ref m), some (.int (nI 0)), some (.int (nI 0)), some (.int (nI 1))]) (bc1 := 0) (bs1 := 0) (bc' := 0) (bs' := 0) d_Mo_blank_25 k_Mo_blank_73 hH rfl rfl rfl rfl (by rfl) (by rfl) ?_
    refine c_Mo_put hH hF (by omega) (fun G2 hFz ho2 => ?_)
    have hF := hFz
    have hH := (ho2 _ (by omega)).trans hH
    show pV Γ m_Mo_blank 28 [some (.ref m), w1] [] _ G2 0 0 Q
    refine V_aload_n d_Mo_blank_28 rfl ?_
    refine V_iconst (v := nI 0) d_Mo_blank_29 (by decide +kernel) ?_
    refine V_iconst (v := nI 2) d_Mo_blank_30 (by decide +kernel) ?_
    refine V_iconst (v := (-1)) d_Mo_blank_31 (by decide +kernel) ?_
    refine V_callV (As := [.int (nI 0), .int (nI 2), .int ((-1))]) (rest := []) (lo' := [some (.ref m), some (.int (nI 0)), some (.int (nI 2)), some (.int ((-1)))]) (bc1 := 0) (bs1 := 0) (bc' := 0) (bs' := 0) d_Mo_blank_32 k_Mo_blank_73 hH rfl rfl rfl rfl (by rfl) (by rfl) ?_
    refine c_Mo_put hH hF (by omega) (fun G3 hFz ho3 => ?_)
    have hF := hFz
    have hH := (ho3 _ (by omega)).trans hH
    show pV Γ m_Mo_blank 35 [some (.ref m), w1] [] _ G3 0 0 Q
    refine V_aload_n d_Mo_blank_35 rfl ?_
    refine V_iconst (v := (-1)) d_Mo_blank_36 (by decide +kernel) ?_
    refine V_putf d_Mo_blank_37 f_Mo_13 p_Mo_13 hH rfl rfl rfl (fun G4 hHz ho4 => ?_)
    have hH : G4 m = some (.inr (kMo, [.ref (m + 1), .int ((-1)), .ref (m + 2), .ref (m + 3), .ref (m + 4), .ref (m + 5), .ref (m + 6), .ref (m + 7), .ref (m + 8), .ref (m + 9), .ref (m + 10), .int ba, .ref (m + 11), .ref (m + 12), .ref (m + 13), .ref (m + 14), .ref (m + 15), .ref (m + 16), .ref (m + 17)])) := hHz
    have hF := (ho4 _ (by omega)).trans hF
    exact V_return d_Mo_blank_40 rfl (hQ _ _ hH hF (row_blk hg) (fun x hx' => by rw [pk_un (by omega), pk_un (by omega)]; exact hx x hx') (fun q hq => by rw [ho4 q (by omega), ho3 q (by omega), ho2 q (by omega), ho q (by omega)]))
  have loop : ∀ (d i : Nat), i ≤ 107 → 107 - i < d → ∀ (G1 : pmG) (g : Nat → Int32), G1 m = some (.inr (kMo, moFs m ch ba)) → G1 (m + 1) = some (.inl (0, 4387, .inl g)) → (∀ k, k < i → g k = nI 0) → (∀ x, 107 ≤ x → g x = f x) → (∀ q, q ≠ m + 1 → G1 q = G q) → pV Γ m_Mo_blank 2 [some (.ref m), some (.int (nI i))] [] n G1 0 0 Q := by
    intro d
    induction d with
    | zero => intro i _ hd; exact absurd hd (by omega)
    | succ d ih =>
      intro i hi hd G1 g hH hF hg hx ho
      refine V_iload_n d_Mo_blank_2 rfl ?_
      refine V_bipush (v := nI 107) d_Mo_blank_3 (by decide +kernel) ?_
      refine V_icmp_geN (tgt := 21) d_Mo_blank_5 (by decide) (by omega) (by omega) (fun hb5 => ?_) (fun hb5 => ?_)
      · exact rest G1 g hH hF (fun k hk => hg k (by omega)) hx ho
      · refine V_aload_n d_Mo_blank_8 rfl ?_
        refine V_iconst (v := nI 0) d_Mo_blank_9 (by decide +kernel) ?_
        refine V_iload_n d_Mo_blank_10 rfl ?_
        refine V_iconst (v := nI 0) d_Mo_blank_11 (by decide +kernel) ?_
        refine V_callV (As := [.int (nI 0), .int (nI i), .int (nI 0)]) (rest := []) (lo' := [some (.ref m), some (.int (nI 0)), some (.int (nI i)), some (.int (nI 0))]) (bc1 := 0) (bs1 := 0) (bc' := 0) (bs' := 0) d_Mo_blank_12 k_Mo_blank_73 hH rfl rfl rfl rfl (by rfl) (by rfl) ?_
        refine c_Mo_put hH hF (by omega) (fun G2 hFz ho2 => ?_)
        have hF := hFz
        have hH := (ho2 _ (by omega)).trans hH
        show pV Γ m_Mo_blank 15 [some (.ref m), some (.int (nI i))] [] _ G2 0 0 Q
        refine V_iincN d_Mo_blank_15 rfl ?_
        show pV Γ _ _ [some (.ref m), some (.int (nI (i + 1)))] _ _ _ _ _ _
        refine V_goto (tgt := 2) d_Mo_blank_18 (by decide) ?_
        exact ih (i + 1) (by omega) (by omega) G2 _ hH hF (fun k hk => (Nat.lt_or_ge k i).elim (fun q => by rw [pk_un (by omega)]; exact hg k q) (fun q => by rw [show k = 107 * 0 + i by omega, pk_us])) (fun x hx' => by rw [pk_un (by omega)]; exact hx x hx') (fun q hq => by rw [ho2 q (by omega), ho q hq])
  refine V_iconst (v := nI 0) d_Mo_blank_0 (by decide +kernel) ?_
  refine V_istore_n d_Mo_blank_1 (Nat.le_of_ble_eq_true rfl) ?_
  show pV Γ _ _ [some (.ref m), some (.int (nI 0))] _ _ _ _ _ _
  exact loop 108 0 (by omega) (by omega) G f hH hF (fun k hk => absurd hk (by omega)) (fun x _ => rfl) (fun q _ => rfl)
set_option maxHeartbeats 1000000 in
theorem c_Mo_copy {Γ : pmE} {G : pmG} {n : Nat} {Q : pmPost} {m : Nat} {ch ba : Int32} {f : Nat → Int32} {cu : Nat → Nat} {x : Int32} (hH : G m = some (.inr (kMo, moFs m ch ba))) (hF : G (m + 1) = some (.inl (0, 4387, .inl f))) (hCu : G (m + 2) = some (.inl (0, 6, .inl (fun j => nI (cu j))))) (hcu : ∀ c, c < 6 → cu c < 41) (hN : (¬ ∃ c, c < 6 ∧ x = nI c ∧ 0 < cu c) → Q (some (.int (nI 0))) n G) (hS : ∀ c, c < 6 → x = nI c → 0 < cu c → ∀ G' g, G' m = some (.inr (kMo, moFs m (-1) ba)) → G' (m + 1) = some (.inl (0, 4387, .inl g)) → (∀ D, isRow f (cu c) D → isRow g 0 D) → (∀ x, 107 ≤ x → g x = f x) → (∀ q, (q < m ∨ m + 2 ≤ q) → G' q = G q) → Q (some (.int (nI 1))) n G') : pV Γ m_Mo_copy 0 [some (.ref m), some (.int x)] [] n G 0 0 Q := by
  refine V_aload_n d_Mo_copy_0 rfl ?_
  refine V_iload_n d_Mo_copy_1 rfl ?_
  refine V_callV (As := [.int x]) (rest := []) (lo' := [some (.ref m), some (.int x)]) (bc1 := 0) (bs1 := 0) (bc' := 0) (bs' := 0) d_Mo_copy_2 k_Mo_copy_77 hH rfl rfl rfl rfl (by rfl) (by rfl) ?_
  refine c_Mo_loaded hH hCu hcu ?_
  show pV Γ m_Mo_copy 5 [some (.ref m), some (.int x)] [.int (pB (∃ c, c < 6 ∧ x = nI c ∧ 0 < cu c))] _ G 0 0 Q
  refine V_if_neB (tgt := 10) d_Mo_copy_5 (by decide) (fun hb5 => ?_) (fun hb5 => ?_)
  · refine V_aload_n d_Mo_copy_10 rfl ?_
    refine V_aload_n d_Mo_copy_11 rfl ?_
    refine V_getf d_Mo_copy_12 f_Mo_17 hH rfl ?_
    refine V_iload_n d_Mo_copy_15 rfl ?_
    obtain ⟨c, hc, hx, h0⟩ := hb5
    have hc41 := hcu c hc
    refine V_iaload (j := c) d_Mo_copy_16 rfl hCu hx hc (by omega) ?_
    show pV Γ _ _ _ (.int (nI (cu c)) :: _) _ _ _ _ _
    refine V_iconst (v := nI 0) d_Mo_copy_17 (by decide +kernel) ?_
    refine V_callV (As := [.int (nI (cu c)), .int (nI 0)]) (rest := []) (lo' := [some (.ref m), some (.int (nI (cu c))), some (.int (nI 0)), none]) (bc1 := 0) (bs1 := 0) (bc' := 0) (bs' := 0) d_Mo_copy_18 k_Mo_copy_81 hH rfl rfl rfl rfl (by rfl) (by rfl) ?_
    refine c_Mo_transcribe hH hF (by omega) (by omega) (by omega) (fun G1 g hF1 hc1 hx1 ho1 => ?_)
    have hF := hF1
    have hH := (ho1 _ (by omega)).trans hH
    show pV Γ m_Mo_copy 21 [some (.ref m), some (.int x)] [] _ G1 0 0 Q
    refine V_aload_n d_Mo_copy_21 rfl ?_
    refine V_iconst (v := (-1)) d_Mo_copy_22 (by decide +kernel) ?_
    refine V_putf d_Mo_copy_23 f_Mo_13 p_Mo_13 hH rfl rfl rfl (fun G2 hHz ho2 => ?_)
    have hH : G2 m = some (.inr (kMo, [.ref (m + 1), .int ((-1)), .ref (m + 2), .ref (m + 3), .ref (m + 4), .ref (m + 5), .ref (m + 6), .ref (m + 7), .ref (m + 8), .ref (m + 9), .ref (m + 10), .int ba, .ref (m + 11), .ref (m + 12), .ref (m + 13), .ref (m + 14), .ref (m + 15), .ref (m + 16), .ref (m + 17)])) := hHz
    have hF := (ho2 _ (by omega)).trans hF
    refine V_iconst (v := nI 1) d_Mo_copy_26 (by decide +kernel) ?_
    exact V_zreturn d_Mo_copy_27 rfl (by first | exact pB_or _ | exact Or.inl rfl | exact Or.inr rfl) (hS c hc hx h0 _ _ hH hF (fun D hD => hD.cpy hc1) (fun x hx => hx1 x (by omega)) (fun q hq => by rw [ho2 q (by omega), ho1 q (by omega)]))
  · refine V_iconst (v := nI 0) d_Mo_copy_8 (by decide +kernel) ?_
    exact V_zreturn d_Mo_copy_9 rfl (by first | exact pB_or _ | exact Or.inl rfl | exact Or.inr rfl) (hN hb5)
set_option maxHeartbeats 1000000 in
theorem c_Mo_set {Γ : pmE} {G : pmG} {n : Nat} {Q : pmPost} {m : Nat} {ch ba : Int32} {f : Nat → Int32} {D : Dfn} {j : Nat} {v : Int32} (hH : G m = some (.inr (kMo, moFs m ch ba))) (hF : G (m + 1) = some (.inl (0, 4387, .inl f))) (hR : isRow f 0 D) (hj : j < 5) (hQ : ∀ G' g, G' m = some (.inr (kMo, moFs m ch ba)) → G' (m + 1) = some (.inl (0, 4387, .inl g)) → isRow g 0 (dSetP D (upd (dP D) j v)) → (∀ x, 107 ≤ x → g x = f x) → (∀ q, (q < m ∨ m + 2 ≤ q) → G' q = G q) → Q (some (.int (nI 1))) n G') : pV Γ m_Mo_set 0 [some (.ref m), some (.int (nI j)), some (.int v)] [] n G 0 0 Q := by
  refine V_iload_n d_Mo_set_0 rfl ?_
  refine V_if_ltN (tgt := 9) d_Mo_set_1 (by decide) (by omega) ?_
  refine V_iload_n d_Mo_set_4 rfl ?_
  refine V_iconst (v := nI 4) d_Mo_set_5 (by decide +kernel) ?_
  refine V_icmp_leN (tgt := 11) d_Mo_set_6 (by decide) (by omega) (by omega) (fun hb6 => ?_) (fun hb6 => ?_)
  · refine V_aload_n d_Mo_set_11 rfl ?_
    refine V_iconst (v := nI 0) d_Mo_set_12 (by decide +kernel) ?_
    refine V_iload_n d_Mo_set_13 rfl ?_
    refine V_iload_n d_Mo_set_14 rfl ?_
    refine V_callV (As := [.int (nI 0), .int (nI j), .int v]) (rest := []) (lo' := [some (.ref m), some (.int (nI 0)), some (.int (nI j)), some (.int v)]) (bc1 := 0) (bs1 := 0) (bc' := 0) (bs' := 0) d_Mo_set_15 k_Mo_set_73 hH rfl rfl rfl rfl (by rfl) (by rfl) ?_
    refine c_Mo_put hH hF (by omega) (fun G1 hFz ho1 => ?_)
    have hF := hFz
    have hH := (ho1 _ (by omega)).trans hH
    show pV Γ m_Mo_set 18 [some (.ref m), some (.int (nI j)), some (.int v)] [] _ G1 0 0 Q
    refine V_iconst (v := nI 1) d_Mo_set_18 (by decide +kernel) ?_
    exact V_zreturn d_Mo_set_19 rfl (by first | exact pB_or _ | exact Or.inl rfl | exact Or.inr rfl) (hQ _ _ hH hF (isRow.part hR hj) (fun x hx => by rw [pk_un (by omega)]) (fun q hq => by rw [ho1 q (by omega)]))
  · exact absurd hb6 (by omega)
theorem c_Mo_setF {Γ : pmE} {G : pmG} {n : Nat} {Q : pmPost} {m : Nat} {x v : Int32} (hx : x < 0 ∨ nI 5 ≤ x) (hF : Q (some (.int (nI 0))) n G) : pV Γ m_Mo_set 0 [some (.ref m), some (.int x), some (.int v)] [] n G 0 0 Q := by
  refine V_iload_n d_Mo_set_0 rfl ?_
  refine V_if_lt (tgt := 9) d_Mo_set_1 (by decide) (fun hb1 => ?_) (fun hb1 => ?_)
  · refine V_iconst (v := nI 0) d_Mo_set_9 (by decide +kernel) ?_
    exact V_zreturn d_Mo_set_10 rfl (by first | exact pB_or _ | exact Or.inl rfl | exact Or.inr rfl) (hF)
  · refine V_iload_n d_Mo_set_4 rfl ?_
    refine V_iconst (v := nI 4) d_Mo_set_5 (by decide +kernel) ?_
    refine V_icmp_le (tgt := 11) d_Mo_set_6 (by decide) (fun hb6 => ?_) (fun hb6 => ?_)
    · exact absurd hx (fun e => e.elim hb1 (fun e => absurd hb6 (Int32.not_le.mpr ((nI_lts (k := 4) (by omega)).mpr e))))
    · refine V_iconst (v := nI 0) d_Mo_set_9 (by decide +kernel) ?_
      exact V_zreturn d_Mo_set_10 rfl (by first | exact pB_or _ | exact Or.inl rfl | exact Or.inr rfl) (hF)
set_option maxHeartbeats 1000000 in
theorem c_Mo_implement {Γ : pmE} {G : pmG} {n : Nat} {Q : pmPost} {m : Nat} {ch ba : Int32} {f : Nat → Int32} {D : Dfn} {x : Int32} (hH : G m = some (.inr (kMo, moFs m ch ba))) (hF : G (m + 1) = some (.inl (0, 4387, .inl f))) (hR : isRow f 0 D) (hN : dNi D = 3 → Q (some (.int (nI 0))) n G) (hS : dNi D < 3 → ∀ G' g, G' m = some (.inr (kMo, moFs m ch ba)) → G' (m + 1) = some (.inl (0, 4387, .inl g)) → isRow g 0 (dAddI D x) → (∀ x, 107 ≤ x → g x = f x) → (∀ q, (q < m ∨ m + 2 ≤ q) → G' q = G q) → Q (some (.int (nI 1))) n G') : pV Γ m_Mo_implement 0 [some (.ref m), some (.int x), none] [] n G 0 0 Q := by
  obtain ⟨⟨o1, o2, o3, o4⟩, hr1, hr2, hr3, hr4, hr5, hr7, hr8⟩ := id hR
  refine V_aload_n d_Mo_implement_0 rfl ?_
  refine V_iconst (v := nI 0) d_Mo_implement_1 (by decide +kernel) ?_
  refine V_iconst (v := nI 5) d_Mo_implement_2 (by decide +kernel) ?_
  refine V_callV (As := [.int (nI 0), .int (nI 5)]) (rest := []) (lo' := [some (.ref m), some (.int (nI 0)), some (.int (nI 5))]) (bc1 := 0) (bs1 := 0) (bc' := 0) (bs' := 0) d_Mo_implement_3 k_Mo_implement_69 hH rfl rfl rfl rfl (by rfl) (by rfl) ?_
  refine c_Mo_get hH hF (by omega) ?_
  rw [hr2]
  show pV Γ m_Mo_implement 6 [some (.ref m), some (.int x), none] [.int (nI (dNi D))] _ G 0 0 Q
  refine V_istore_n d_Mo_implement_6 (Nat.le_of_ble_eq_true rfl) ?_
  show pV Γ _ _ [some (.ref m), some (.int x), some (.int (nI (dNi D)))] _ _ _ _ _ _
  refine V_iload_n d_Mo_implement_7 rfl ?_
  refine V_iconst (v := nI 3) d_Mo_implement_8 (by decide +kernel) ?_
  refine V_icmp_neN (tgt := 14) d_Mo_implement_9 (by decide) (by omega) (by omega) (fun hb9 => ?_) (fun hb9 => ?_)
  · refine V_aload_n d_Mo_implement_14 rfl ?_
    refine V_iconst (v := nI 0) d_Mo_implement_15 (by decide +kernel) ?_
    refine V_bipush (v := nI 6) d_Mo_implement_16 (by decide +kernel) ?_
    refine V_iload_n d_Mo_implement_18 rfl ?_
    refine V_iaddN d_Mo_implement_19 ?_
    refine V_iload_n d_Mo_implement_20 rfl ?_
    refine V_callV (As := [.int (nI 0), .int (nI (6 + (dNi D))), .int x]) (rest := []) (lo' := [some (.ref m), some (.int (nI 0)), some (.int (nI (6 + (dNi D)))), some (.int x)]) (bc1 := 0) (bs1 := 0) (bc' := 0) (bs' := 0) d_Mo_implement_21 k_Mo_implement_73 hH rfl rfl rfl rfl (by rfl) (by rfl) ?_
    refine c_Mo_put hH hF (by omega) (fun G1 hFz ho1 => ?_)
    have hF := hFz
    have hH := (ho1 _ (by omega)).trans hH
    show pV Γ m_Mo_implement 24 [some (.ref m), some (.int x), some (.int (nI (dNi D)))] [] _ G1 0 0 Q
    refine V_aload_n d_Mo_implement_24 rfl ?_
    refine V_iconst (v := nI 0) d_Mo_implement_25 (by decide +kernel) ?_
    refine V_iconst (v := nI 5) d_Mo_implement_26 (by decide +kernel) ?_
    refine V_iload_n d_Mo_implement_27 rfl ?_
    refine V_iconst (v := nI 1) d_Mo_implement_28 (by decide +kernel) ?_
    refine V_iaddN d_Mo_implement_29 ?_
    refine V_callV (As := [.int (nI 0), .int (nI 5), .int (nI (dNi D + 1))]) (rest := []) (lo' := [some (.ref m), some (.int (nI 0)), some (.int (nI 5)), some (.int (nI (dNi D + 1)))]) (bc1 := 0) (bs1 := 0) (bc' := 0) (bs' := 0) d_Mo_implement_30 k_Mo_implement_73 hH rfl rfl rfl rfl (by rfl) (by rfl) ?_
    refine c_Mo_put hH hF (by omega) (fun G2 hFz ho2 => ?_)
    have hF := hFz
    have hH := (ho2 _ (by omega)).trans hH
    show pV Γ m_Mo_implement 33 [some (.ref m), some (.int x), some (.int (nI (dNi D)))] [] _ G2 0 0 Q
    refine V_iconst (v := nI 1) d_Mo_implement_33 (by decide +kernel) ?_
    exact V_zreturn d_Mo_implement_34 rfl (by first | exact pB_or _ | exact Or.inl rfl | exact Or.inr rfl) (hS (by omega) _ _ hH hF (isRow.addI hR (by omega)) (fun x hx => by rw [pk_un (by omega), pk_un (by omega)]) (fun q hq => by rw [ho2 q (by omega), ho1 q (by omega)]))
  · refine V_iconst (v := nI 0) d_Mo_implement_12 (by decide +kernel) ?_
    exact V_zreturn d_Mo_implement_13 rfl (by first | exact pB_or _ | exact Or.inl rfl | exact Or.inr rfl) (hN hb9)
set_option maxHeartbeats 1000000 in
theorem c_Mo_field {Γ : pmE} {G : pmG} {n : Nat} {Q : pmPost} {m : Nat} {ch ba : Int32} {f : Nat → Int32} {D : Dfn} {x y z : Int32} (hH : G m = some (.inr (kMo, moFs m ch ba))) (hF : G (m + 1) = some (.inl (0, 4387, .inl f))) (hR : isRow f 0 D) (hN : dNf D = 4 → Q (some (.int (nI 0))) n G) (hS : dNf D < 4 → ∀ G' g, G' m = some (.inr (kMo, moFs m ch ba)) → G' (m + 1) = some (.inl (0, 4387, .inl g)) → isRow g 0 (dAddF D x y z) → (∀ x, 107 ≤ x → g x = f x) → (∀ q, (q < m ∨ m + 2 ≤ q) → G' q = G q) → Q (some (.int (nI 1))) n G') : pV Γ m_Mo_field 0 [some (.ref m), some (.int x), some (.int y), some (.int z), none] [] n G 0 0 Q := by
  obtain ⟨⟨o1, o2, o3, o4⟩, hr1, hr2, hr3, hr4, hr5, hr7, hr8⟩ := id hR
  refine V_aload_n d_Mo_field_0 rfl ?_
  refine V_iconst (v := nI 0) d_Mo_field_1 (by decide +kernel) ?_
  refine V_bipush (v := nI 9) d_Mo_field_2 (by decide +kernel) ?_
  refine V_callV (As := [.int (nI 0), .int (nI 9)]) (rest := []) (lo' := [some (.ref m), some (.int (nI 0)), some (.int (nI 9))]) (bc1 := 0) (bs1 := 0) (bc' := 0) (bs' := 0) d_Mo_field_4 k_Mo_field_69 hH rfl rfl rfl rfl (by rfl) (by rfl) ?_
  refine c_Mo_get hH hF (by omega) ?_
  rw [hr4]
  show pV Γ m_Mo_field 7 [some (.ref m), some (.int x), some (.int y), some (.int z), none] [.int (nI (dNf D))] _ G 0 0 Q
  refine V_istore d_Mo_field_7 (Nat.le_of_ble_eq_true rfl) ?_
  show pV Γ _ _ [some (.ref m), some (.int x), some (.int y), some (.int z), some (.int (nI (dNf D)))] _ _ _ _ _ _
  refine V_iload d_Mo_field_9 rfl ?_
  refine V_iconst (v := nI 4) d_Mo_field_11 (by decide +kernel) ?_
  refine V_icmp_neN (tgt := 17) d_Mo_field_12 (by decide) (by omega) (by omega) (fun hb12 => ?_) (fun hb12 => ?_)
  · refine V_aload_n d_Mo_field_17 rfl ?_
    refine V_iconst (v := nI 0) d_Mo_field_18 (by decide +kernel) ?_
    refine V_bipush (v := nI 10) d_Mo_field_19 (by decide +kernel) ?_
    refine V_iconst (v := nI 3) d_Mo_field_21 (by decide +kernel) ?_
    refine V_iload d_Mo_field_22 rfl ?_
    refine V_imulN d_Mo_field_24 ?_
    refine V_iaddN d_Mo_field_25 ?_
    refine V_iload_n d_Mo_field_26 rfl ?_
    refine V_callV (As := [.int (nI 0), .int (nI (10 + (3 * (dNf D)))), .int x]) (rest := []) (lo' := [some (.ref m), some (.int (nI 0)), some (.int (nI (10 + (3 * (dNf D))))), some (.int x)]) (bc1 := 0) (bs1 := 0) (bc' := 0) (bs' := 0) d_Mo_field_27 k_Mo_field_73 hH rfl rfl rfl rfl (by rfl) (by rfl) ?_
    refine c_Mo_put hH hF (by omega) (fun G1 hFz ho1 => ?_)
    have hF := hFz
    have hH := (ho1 _ (by omega)).trans hH
    show pV Γ m_Mo_field 30 [some (.ref m), some (.int x), some (.int y), some (.int z), some (.int (nI (dNf D)))] [] _ G1 0 0 Q
    refine V_aload_n d_Mo_field_30 rfl ?_
    refine V_iconst (v := nI 0) d_Mo_field_31 (by decide +kernel) ?_
    refine V_bipush (v := nI 11) d_Mo_field_32 (by decide +kernel) ?_
    refine V_iconst (v := nI 3) d_Mo_field_34 (by decide +kernel) ?_
    refine V_iload d_Mo_field_35 rfl ?_
    refine V_imulN d_Mo_field_37 ?_
    refine V_iaddN d_Mo_field_38 ?_
    refine V_iload_n d_Mo_field_39 rfl ?_
    refine V_callV (As := [.int (nI 0), .int (nI (11 + (3 * (dNf D)))), .int y]) (rest := []) (lo' := [some (.ref m), some (.int (nI 0)), some (.int (nI (11 + (3 * (dNf D))))), some (.int y)]) (bc1 := 0) (bs1 := 0) (bc' := 0) (bs' := 0) d_Mo_field_40 k_Mo_field_73 hH rfl rfl rfl rfl (by rfl) (by rfl) ?_
    refine c_Mo_put hH hF (by omega) (fun G2 hFz ho2 => ?_)
    have hF := hFz
    have hH := (ho2 _ (by omega)).trans hH
    show pV Γ m_Mo_field 43 [some (.ref m), some (.int x), some (.int y), some (.int z), some (.int (nI (dNf D)))] [] _ G2 0 0 Q
    refine V_aload_n d_Mo_field_43 rfl ?_
    refine V_iconst (v := nI 0) d_Mo_field_44 (by decide +kernel) ?_
    refine V_bipush (v := nI 12) d_Mo_field_45 (by decide +kernel) ?_
    refine V_iconst (v := nI 3) d_Mo_field_47 (by decide +kernel) ?_
    refine V_iload d_Mo_field_48 rfl ?_
    refine V_imulN d_Mo_field_50 ?_
    refine V_iaddN d_Mo_field_51 ?_
    refine V_iload_n d_Mo_field_52 rfl ?_
    refine V_callV (As := [.int (nI 0), .int (nI (12 + (3 * (dNf D)))), .int z]) (rest := []) (lo' := [some (.ref m), some (.int (nI 0)), some (.int (nI (12 + (3 * (dNf D))))), some (.int z)]) (bc1 := 0) (bs1 := 0) (bc' := 0) (bs' := 0) d_Mo_field_53 k_Mo_field_73 hH rfl rfl rfl rfl (by rfl) (by rfl) ?_
    refine c_Mo_put hH hF (by omega) (fun G3 hFz ho3 => ?_)
    have hF := hFz
    have hH := (ho3 _ (by omega)).trans hH
    show pV Γ m_Mo_field 56 [some (.ref m), some (.int x), some (.int y), some (.int z), some (.int (nI (dNf D)))] [] _ G3 0 0 Q
    refine V_aload_n d_Mo_field_56 rfl ?_
    refine V_iconst (v := nI 0) d_Mo_field_57 (by decide +kernel) ?_
    refine V_bipush (v := nI 9) d_Mo_field_58 (by decide +kernel) ?_
    refine V_iload d_Mo_field_60 rfl ?_
    refine V_iconst (v := nI 1) d_Mo_field_62 (by decide +kernel) ?_
    refine V_iaddN d_Mo_field_63 ?_
    refine V_callV (As := [.int (nI 0), .int (nI 9), .int (nI (dNf D + 1))]) (rest := []) (lo' := [some (.ref m), some (.int (nI 0)), some (.int (nI 9)), some (.int (nI (dNf D + 1)))]) (bc1 := 0) (bs1 := 0) (bc' := 0) (bs' := 0) d_Mo_field_64 k_Mo_field_73 hH rfl rfl rfl rfl (by rfl) (by rfl) ?_
    refine c_Mo_put hH hF (by omega) (fun G4 hFz ho4 => ?_)
    have hF := hFz
    have hH := (ho4 _ (by omega)).trans hH
    show pV Γ m_Mo_field 67 [some (.ref m), some (.int x), some (.int y), some (.int z), some (.int (nI (dNf D)))] [] _ G4 0 0 Q
    refine V_iconst (v := nI 1) d_Mo_field_67 (by decide +kernel) ?_
    exact V_zreturn d_Mo_field_68 rfl (by first | exact pB_or _ | exact Or.inl rfl | exact Or.inr rfl) (hS (by omega) _ _ hH hF (isRow.addF hR (by omega)) (fun x hx => by rw [pk_un (by omega), pk_un (by omega), pk_un (by omega), pk_un (by omega)]) (fun q hq => by rw [ho4 q (by omega), ho3 q (by omega), ho2 q (by omega), ho1 q (by omega)]))
  · refine V_iconst (v := nI 0) d_Mo_field_15 (by decide +kernel) ?_
    exact V_zreturn d_Mo_field_16 rfl (by first | exact pB_or _ | exact Or.inl rfl | exact Or.inr rfl) (hN hb12)
set_option maxHeartbeats 1000000 in
theorem c_Mo_method {Γ : pmE} {G : pmG} {n : Nat} {Q : pmPost} {m : Nat} {ch ba : Int32} {f : Nat → Int32} {D : Dfn} {x y : Int32} (hH : G m = some (.inr (kMo, moFs m ch ba))) (hF : G (m + 1) = some (.inl (0, 4387, .inl f))) (hR : isRow f 0 D) (hN : dNm D = 4 → Q (some (.int (nI 0))) n G) (hS : dNm D < 4 → ∀ G' g, G' m = some (.inr (kMo, moFs m (nI (dNm D)) ba)) → G' (m + 1) = some (.inl (0, 4387, .inl g)) → isRow g 0 (dAddM D x y) → (∀ x, 107 ≤ x → g x = f x) → (∀ q, (q < m ∨ m + 2 ≤ q) → G' q = G q) → Q (some (.int (nI 1))) n G') : pV Γ m_Mo_method 0 [some (.ref m), some (.int x), some (.int y), none] [] n G 0 0 Q := by
  obtain ⟨⟨o1, o2, o3, o4⟩, hr1, hr2, hr3, hr4, hr5, hr7, hr8⟩ := id hR
  refine V_aload_n d_Mo_method_0 rfl ?_
  refine V_iconst (v := nI 0) d_Mo_method_1 (by decide +kernel) ?_
  refine V_bipush (v := nI 22) d_Mo_method_2 (by decide +kernel) ?_
  refine V_callV (As := [.int (nI 0), .int (nI 22)]) (rest := []) (lo' := [some (.ref m), some (.int (nI 0)), some (.int (nI 22))]) (bc1 := 0) (bs1 := 0) (bc' := 0) (bs' := 0) d_Mo_method_4 k_Mo_method_69 hH rfl rfl rfl rfl (by rfl) (by rfl) ?_
  refine c_Mo_get hH hF (by omega) ?_
  rw [hr7]
  show pV Γ m_Mo_method 7 [some (.ref m), some (.int x), some (.int y), none] [.int (nI (dNm D))] _ G 0 0 Q
  refine V_istore_n d_Mo_method_7 (Nat.le_of_ble_eq_true rfl) ?_
  show pV Γ _ _ [some (.ref m), some (.int x), some (.int y), some (.int (nI (dNm D)))] _ _ _ _ _ _
  refine V_iload_n d_Mo_method_8 rfl ?_
  refine V_iconst (v := nI 4) d_Mo_method_9 (by decide +kernel) ?_
  refine V_icmp_neN (tgt := 15) d_Mo_method_10 (by decide) (by omega) (by omega) (fun hb10 => ?_) (fun hb10 => ?_)
  · refine V_aload_n d_Mo_method_15 rfl ?_
    refine V_iconst (v := nI 0) d_Mo_method_16 (by decide +kernel) ?_
    refine V_iload_n d_Mo_method_17 rfl ?_
    refine V_callS (As := [.int (nI (dNm D))]) (rest := [.int (nI 0), .ref m]) (lo' := [some (.int (nI (dNm D)))]) (bc1 := 0) (bs1 := 0) (bc' := 0) (bs' := 0) d_Mo_method_18 k_Mo_method_85 rfl rfl rfl rfl (by rfl) (by rfl) ?_
    refine c_Mo_methodAt ?_
    show pV Γ m_Mo_method 21 [some (.ref m), some (.int x), some (.int y), some (.int (nI (dNm D)))] [.int (nI (23 + 21 * (dNm D))), .int (nI 0), .ref m] _ G 0 0 Q
    refine V_iload_n d_Mo_method_21 rfl ?_
    refine V_callV (As := [.int (nI 0), .int (nI (23 + 21 * (dNm D))), .int x]) (rest := []) (lo' := [some (.ref m), some (.int (nI 0)), some (.int (nI (23 + 21 * (dNm D)))), some (.int x)]) (bc1 := 0) (bs1 := 0) (bc' := 0) (bs' := 0) d_Mo_method_22 k_Mo_method_73 hH rfl rfl rfl rfl (by rfl) (by rfl) ?_
    refine c_Mo_put hH hF (by omega) (fun G1 hFz ho1 => ?_)
    have hF := hFz
    have hH := (ho1 _ (by omega)).trans hH
    show pV Γ m_Mo_method 25 [some (.ref m), some (.int x), some (.int y), some (.int (nI (dNm D)))] [] _ G1 0 0 Q
    refine V_aload_n d_Mo_method_25 rfl ?_
    refine V_iconst (v := nI 0) d_Mo_method_26 (by decide +kernel) ?_
    refine V_iload_n d_Mo_method_27 rfl ?_
    refine V_callS (As := [.int (nI (dNm D))]) (rest := [.int (nI 0), .ref m]) (lo' := [some (.int (nI (dNm D)))]) (bc1 := 0) (bs1 := 0) (bc' := 0) (bs' := 0) d_Mo_method_28 k_Mo_method_85 rfl rfl rfl rfl (by rfl) (by rfl) ?_
    refine c_Mo_methodAt ?_
    show pV Γ m_Mo_method 31 [some (.ref m), some (.int x), some (.int y), some (.int (nI (dNm D)))] [.int (nI (23 + 21 * (dNm D))), .int (nI 0), .ref m] _ G1 0 0 Q
    refine V_iconst (v := nI 1) d_Mo_method_31 (by decide +kernel) ?_
    refine V_iaddN d_Mo_method_32 ?_
    refine V_iload_n d_Mo_method_33 rfl ?_
    refine V_callV (As := [.int (nI 0), .int (nI (23 + 21 * (dNm D) + 1)), .int y]) (rest := []) (lo' := [some (.ref m), some (.int (nI 0)), some (.int (nI (23 + 21 * (dNm D) + 1))), some (.int y)]) (bc1 := 0) (bs1 := 0) (bc' := 0) (bs' := 0) d_Mo_method_34 k_Mo_method_73 hH rfl rfl rfl rfl (by rfl) (by rfl) ?_
    refine c_Mo_put hH hF (by omega) (fun G2 hFz ho2 => ?_)
    have hF := hFz
    have hH := (ho2 _ (by omega)).trans hH
    show pV Γ m_Mo_method 37 [some (.ref m), some (.int x), some (.int y), some (.int (nI (dNm D)))] [] _ G2 0 0 Q
    refine V_aload_n d_Mo_method_37 rfl ?_
    refine V_iconst (v := nI 0) d_Mo_method_38 (by decide +kernel) ?_
    refine V_iload_n d_Mo_method_39 rfl ?_
    refine V_callS (As := [.int (nI (dNm D))]) (rest := [.int (nI 0), .ref m]) (lo' := [some (.int (nI (dNm D)))]) (bc1 := 0) (bs1 := 0) (bc' := 0) (bs' := 0) d_Mo_method_40 k_Mo_method_85 rfl rfl rfl rfl (by rfl) (by rfl) ?_
    refine c_Mo_methodAt ?_
    show pV Γ m_Mo_method 43 [some (.ref m), some (.int x), some (.int y), some (.int (nI (dNm D)))] [.int (nI (23 + 21 * (dNm D))), .int (nI 0), .ref m] _ G2 0 0 Q
    refine V_iconst (v := nI 2) d_Mo_method_43 (by decide +kernel) ?_
    refine V_iaddN d_Mo_method_44 ?_
    refine V_iconst (v := nI 0) d_Mo_method_45 (by decide +kernel) ?_
    refine V_callV (As := [.int (nI 0), .int (nI (23 + 21 * (dNm D) + 2)), .int (nI 0)]) (rest := []) (lo' := [some (.ref m), some (.int (nI 0)), some (.int (nI (23 + 21 * (dNm D) + 2))), some (.int (nI 0))]) (bc1 := 0) (bs1 := 0) (bc' := 0) (bs' := 0) d_Mo_method_46 k_Mo_method_73 hH rfl rfl rfl rfl (by rfl) (by rfl) ?_
    refine c_Mo_put hH hF (by omega) (fun G3 hFz ho3 => ?_)
    have hF := hFz
    have hH := (ho3 _ (by omega)).trans hH
    show pV Γ m_Mo_method 49 [some (.ref m), some (.int x), some (.int y), some (.int (nI (dNm D)))] [] _ G3 0 0 Q
    refine V_aload_n d_Mo_method_49 rfl ?_
    refine V_iconst (v := nI 0) d_Mo_method_50 (by decide +kernel) ?_
    refine V_bipush (v := nI 22) d_Mo_method_51 (by decide +kernel) ?_
    refine V_iload_n d_Mo_method_53 rfl ?_
    refine V_iconst (v := nI 1) d_Mo_method_54 (by decide +kernel) ?_
    refine V_iaddN d_Mo_method_55 ?_
    refine V_callV (As := [.int (nI 0), .int (nI 22), .int (nI (dNm D + 1))]) (rest := []) (lo' := [some (.ref m), some (.int (nI 0)), some (.int (nI 22)), some (.int (nI (dNm D + 1)))]) (bc1 := 0) (bs1 := 0) (bc' := 0) (bs' := 0) d_Mo_method_56 k_Mo_method_73 hH rfl rfl rfl rfl (by rfl) (by rfl) ?_
    refine c_Mo_put hH hF (by omega) (fun G4 hFz ho4 => ?_)
    have hF := hFz
    have hH := (ho4 _ (by omega)).trans hH
    show pV Γ m_Mo_method 59 [some (.ref m), some (.int x), some (.int y), some (.int (nI (dNm D)))] [] _ G4 0 0 Q
    refine V_aload_n d_Mo_method_59 rfl ?_
    refine V_iload_n d_Mo_method_60 rfl ?_
    refine V_putf d_Mo_method_61 f_Mo_13 p_Mo_13 hH rfl rfl rfl (fun G5 hHz ho5 => ?_)
    have hH : G5 m = some (.inr (kMo, [.ref (m + 1), .int (nI (dNm D)), .ref (m + 2), .ref (m + 3), .ref (m + 4), .ref (m + 5), .ref (m + 6), .ref (m + 7), .ref (m + 8), .ref (m + 9), .ref (m + 10), .int ba, .ref (m + 11), .ref (m + 12), .ref (m + 13), .ref (m + 14), .ref (m + 15), .ref (m + 16), .ref (m + 17)])) := hHz
    have hF := (ho5 _ (by omega)).trans hF
    refine V_iconst (v := nI 1) d_Mo_method_64 (by decide +kernel) ?_
    exact V_zreturn d_Mo_method_65 rfl (by first | exact pB_or _ | exact Or.inl rfl | exact Or.inr rfl) (hS (by omega) _ _ hH hF (isRow.addM hR (by omega)) (fun x hx => by rw [pk_un (by omega), pk_un (by omega), pk_un (by omega), pk_un (by omega)]) (fun q hq => by rw [ho5 q (by omega), ho4 q (by omega), ho3 q (by omega), ho2 q (by omega), ho1 q (by omega)]))
  · refine V_iconst (v := nI 0) d_Mo_method_13 (by decide +kernel) ?_
    exact V_zreturn d_Mo_method_14 rfl (by first | exact pB_or _ | exact Or.inl rfl | exact Or.inr rfl) (hN hb10)
set_option maxHeartbeats 1000000 in
theorem c_Mo_choose {Γ : pmE} {G : pmG} {n : Nat} {Q : pmPost} {m : Nat} {ch ba : Int32} {f : Nat → Int32} {D : Dfn} {j : Nat} (hH : G m = some (.inr (kMo, moFs m ch ba))) (hF : G (m + 1) = some (.inl (0, 4387, .inl f))) (hR : isRow f 0 D) (hj : j < dNm D) (hQ : ∀ G' g, G' m = some (.inr (kMo, moFs m (nI j) ba)) → G' (m + 1) = some (.inl (0, 4387, .inl g)) → isRow g 0 (dSetM D j (dN D j) (dG D j) 0 (dC D j)) → (∀ x, 107 ≤ x → g x = f x) → (∀ q, (q < m ∨ m + 2 ≤ q) → G' q = G q) → Q (some (.int (nI 1))) n G') : pV Γ m_Mo_choose 0 [some (.ref m), some (.int (nI j))] [] n G 0 0 Q := by
  obtain ⟨⟨o1, o2, o3, o4⟩, hr1, hr2, hr3, hr4, hr5, hr7, hr8⟩ := id hR
  refine V_iload_n d_Mo_choose_0 rfl ?_
  refine V_if_ltN (tgt := 15) d_Mo_choose_1 (by decide) (by omega) ?_
  refine V_iload_n d_Mo_choose_4 rfl ?_
  refine V_aload_n d_Mo_choose_5 rfl ?_
  refine V_iconst (v := nI 0) d_Mo_choose_6 (by decide +kernel) ?_
  refine V_bipush (v := nI 22) d_Mo_choose_7 (by decide +kernel) ?_
  refine V_callV (As := [.int (nI 0), .int (nI 22)]) (rest := [.int (nI j)]) (lo' := [some (.ref m), some (.int (nI 0)), some (.int (nI 22))]) (bc1 := 0) (bs1 := 0) (bc' := 0) (bs' := 0) d_Mo_choose_9 k_Mo_choose_69 hH rfl rfl rfl rfl (by rfl) (by rfl) ?_
  refine c_Mo_get hH hF (by omega) ?_
  rw [hr7]
  show pV Γ m_Mo_choose 12 [some (.ref m), some (.int (nI j))] [.int (nI (dNm D)), .int (nI j)] _ G 0 0 Q
  refine V_icmp_ltN (tgt := 17) d_Mo_choose_12 (by decide) (by omega) (by omega) (fun hb12 => ?_) (fun hb12 => ?_)
  · refine V_aload_n d_Mo_choose_17 rfl ?_
    refine V_iload_n d_Mo_choose_18 rfl ?_
    refine V_putf d_Mo_choose_19 f_Mo_13 p_Mo_13 hH rfl rfl rfl (fun G1 hHz ho1 => ?_)
    have hH : G1 m = some (.inr (kMo, [.ref (m + 1), .int (nI j), .ref (m + 2), .ref (m + 3), .ref (m + 4), .ref (m + 5), .ref (m + 6), .ref (m + 7), .ref (m + 8), .ref (m + 9), .ref (m + 10), .int ba, .ref (m + 11), .ref (m + 12), .ref (m + 13), .ref (m + 14), .ref (m + 15), .ref (m + 16), .ref (m + 17)])) := hHz
    have hF := (ho1 _ (by omega)).trans hF
    refine V_aload_n d_Mo_choose_22 rfl ?_
    refine V_iconst (v := nI 0) d_Mo_choose_23 (by decide +kernel) ?_
    refine V_iload_n d_Mo_choose_24 rfl ?_
    refine V_callS (As := [.int (nI j)]) (rest := [.int (nI 0), .ref m]) (lo' := [some (.int (nI j))]) (bc1 := 0) (bs1 := 0) (bc' := 0) (bs' := 0) d_Mo_choose_25 k_Mo_choose_85 rfl rfl rfl rfl (by rfl) (by rfl) ?_
    refine c_Mo_methodAt ?_
    show pV Γ m_Mo_choose 28 [some (.ref m), some (.int (nI j))] [.int (nI (23 + 21 * j)), .int (nI 0), .ref m] _ G1 0 0 Q
    refine V_iconst (v := nI 2) d_Mo_choose_28 (by decide +kernel) ?_
    refine V_iaddN d_Mo_choose_29 ?_
    refine V_iconst (v := nI 0) d_Mo_choose_30 (by decide +kernel) ?_
    refine V_callV (As := [.int (nI 0), .int (nI (23 + 21 * j + 2)), .int (nI 0)]) (rest := []) (lo' := [some (.ref m), some (.int (nI 0)), some (.int (nI (23 + 21 * j + 2))), some (.int (nI 0))]) (bc1 := 0) (bs1 := 0) (bc' := 0) (bs' := 0) d_Mo_choose_31 k_Mo_choose_73 hH rfl rfl rfl rfl (by rfl) (by rfl) ?_
    refine c_Mo_put hH hF (by omega) (fun G2 hFz ho2 => ?_)
    have hF := hFz
    have hH := (ho2 _ (by omega)).trans hH
    show pV Γ m_Mo_choose 34 [some (.ref m), some (.int (nI j))] [] _ G2 0 0 Q
    refine V_iconst (v := nI 1) d_Mo_choose_34 (by decide +kernel) ?_
    exact V_zreturn d_Mo_choose_35 rfl (by first | exact pB_or _ | exact Or.inl rfl | exact Or.inr rfl) (hQ _ _ hH hF (isRow.mth hR (by omega) (by rw [pk_un (by omega)]; exact (hr8 j hj).1) (by rw [pk_un (by omega)]; exact (hr8 j hj).2.1) (by rw [pk_us]) (fun k hk => absurd hk (by omega)) (fun x hx => by rw [pk_un (by omega)])) (fun x hx => by rw [pk_un (by omega)]) (fun q hq => by rw [ho2 q (by omega), ho1 q (by omega)]))
  · exact absurd hb12 (by omega)
set_option maxHeartbeats 1000000 in
theorem c_Mo_chooseF {Γ : pmE} {G : pmG} {n : Nat} {Q : pmPost} {m : Nat} {ch ba : Int32} {f : Nat → Int32} {D : Dfn} {x : Int32} (hH : G m = some (.inr (kMo, moFs m ch ba))) (hF : G (m + 1) = some (.inl (0, 4387, .inl f))) (hR : isRow f 0 D) (hx : x < 0 ∨ nI (dNm D) ≤ x) (hN : Q (some (.int (nI 0))) n G) : pV Γ m_Mo_choose 0 [some (.ref m), some (.int x)] [] n G 0 0 Q := by
  obtain ⟨⟨o1, o2, o3, o4⟩, hr1, hr2, hr3, hr4, hr5, hr7, hr8⟩ := id hR
  refine V_iload_n d_Mo_choose_0 rfl ?_
  refine V_if_lt (tgt := 15) d_Mo_choose_1 (by decide) (fun hb1 => ?_) (fun hb1 => ?_)
  · refine V_iconst (v := nI 0) d_Mo_choose_15 (by decide +kernel) ?_
    exact V_zreturn d_Mo_choose_16 rfl (by first | exact pB_or _ | exact Or.inl rfl | exact Or.inr rfl) (hN)
  · refine V_iload_n d_Mo_choose_4 rfl ?_
    refine V_aload_n d_Mo_choose_5 rfl ?_
    refine V_iconst (v := nI 0) d_Mo_choose_6 (by decide +kernel) ?_
    refine V_bipush (v := nI 22) d_Mo_choose_7 (by decide +kernel) ?_
    refine V_callV (As := [.int (nI 0), .int (nI 22)]) (rest := [.int x]) (lo' := [some (.ref m), some (.int (nI 0)), some (.int (nI 22))]) (bc1 := 0) (bs1 := 0) (bc' := 0) (bs' := 0) d_Mo_choose_9 k_Mo_choose_69 hH rfl rfl rfl rfl (by rfl) (by rfl) ?_
    refine c_Mo_get hH hF (by omega) ?_
    rw [hr7]
    show pV Γ m_Mo_choose 12 [some (.ref m), some (.int x)] [.int (nI (dNm D)), .int x] _ G 0 0 Q
    refine V_icmp_lt (tgt := 17) d_Mo_choose_12 (by decide) (fun hb12 => ?_) (fun hb12 => ?_)
    · exact absurd hx (fun e => e.elim hb1 (fun e => absurd hb12 (Int32.not_lt.mpr e)))
    · refine V_iconst (v := nI 0) d_Mo_choose_15 (by decide +kernel) ?_
      exact V_zreturn d_Mo_choose_16 rfl (by first | exact pB_or _ | exact Or.inl rfl | exact Or.inr rfl) (hN)
theorem cd_row {f : Nat → Int32} {j : Nat} {D : Dfn} {x y z : Int32} (hR : isRow f 0 D) (hj : j < dNm D) (hl : dL D j < 6) : isRow (upd (upd (upd (upd f (107 * 0 + (23 + 21 * j + 2 + 1 + 3 * dL D j)) x) (107 * 0 + (23 + 21 * j + 2 + 2 + 3 * dL D j)) y) (107 * 0 + (23 + 21 * j + 2 + 3 + 3 * dL D j)) z) (107 * 0 + (23 + 21 * j + 2)) (nI (dL D j + 1))) 0 (dSetM D j (dN D j) (dG D j) (dL D j + 1) (cd_add (dL D j) (dC D j) x y z)) := by
  have hr8 := hR.2.2.2.2.2.2.2
  obtain ⟨g1, g2, g3, g4⟩ := hr8 j hj
  refine isRow.mth hR (by omega) (by rw [pk_un (by omega), pk_un (by omega), pk_un (by omega), pk_un (by omega)]; exact g1) (by rw [pk_un (by omega), pk_un (by omega), pk_un (by omega), pk_un (by omega)]; exact g2) (by rw [pk_us]) (fun k hk => ?_) (fun x hx => by rw [pk_un (by omega), pk_un (by omega), pk_un (by omega), pk_un (by omega)])
  rw [pk_un (by omega)]
  unfold cd_add
  by_cases e : k = dL D j * 3 + 2
  · rw [e, pk_us, show 107 * 0 + (23 + 21 * j + 3 + (dL D j * 3 + 2)) = 107 * 0 + (23 + 21 * j + 2 + 3 + 3 * dL D j) by omega, pk_us]
  · rw [pk_un e, pk_un (by omega)]
    by_cases e : k = dL D j * 3 + 1
    · rw [e, pk_us, show 107 * 0 + (23 + 21 * j + 3 + (dL D j * 3 + 1)) = 107 * 0 + (23 + 21 * j + 2 + 2 + 3 * dL D j) by omega, pk_us]
    · rw [pk_un e, pk_un (by omega)]
      by_cases e : k = dL D j * 3
      · rw [e, pk_us, show 107 * 0 + (23 + 21 * j + 3 + (dL D j * 3)) = 107 * 0 + (23 + 21 * j + 2 + 1 + 3 * dL D j) by omega, pk_us]
      · rw [pk_un e, pk_un (by omega)]; exact g4 k (by omega)
set_option maxHeartbeats 1000000 in
theorem c_Mo_code {Γ : pmE} {G : pmG} {n : Nat} {Q : pmPost} {m : Nat} {ba : Int32} {f : Nat → Int32} {D : Dfn} {j : Nat} {x y z : Int32} (hH : G m = some (.inr (kMo, moFs m (nI j) ba))) (hF : G (m + 1) = some (.inl (0, 4387, .inl f))) (hR : isRow f 0 D) (hj : j < dNm D) (hN : dL D j = 6 → Q (some (.int (nI 0))) n G) (hS : dL D j < 6 → ∀ G' g, G' m = some (.inr (kMo, moFs m (nI j) ba)) → G' (m + 1) = some (.inl (0, 4387, .inl g)) → isRow g 0 (dSetM D j (dN D j) (dG D j) (dL D j + 1) (cd_add (dL D j) (dC D j) x y z)) → (∀ x, 107 ≤ x → g x = f x) → (∀ q, (q < m ∨ m + 2 ≤ q) → G' q = G q) → Q (some (.int (nI 1))) n G') : pV Γ m_Mo_code 0 [some (.ref m), some (.int x), some (.int y), some (.int z), none, none] [] n G 0 0 Q := by
  obtain ⟨⟨o1, o2, o3, o4⟩, hr1, hr2, hr3, hr4, hr5, hr7, hr8⟩ := id hR
  have hl6 := o4 j hj
  refine V_aload_n d_Mo_code_0 rfl ?_
  refine V_getf d_Mo_code_1 f_Mo_13 hH rfl ?_
  refine V_iconst (v := (-1)) d_Mo_code_4 (by decide +kernel) ?_
  refine V_icmp_ne (tgt := 10) d_Mo_code_5 (by decide) (fun _ => ?_) (fun e => absurd e ?_)
  · refine V_aload_n d_Mo_code_10 rfl ?_
    refine V_getf d_Mo_code_11 f_Mo_13 hH rfl ?_
    refine V_callS (As := [.int (nI j)]) (rest := []) (lo' := [some (.int (nI j))]) (bc1 := 0) (bs1 := 0) (bc' := 0) (bs' := 0) d_Mo_code_14 k_Mo_code_85 rfl rfl rfl rfl (by rfl) (by rfl) ?_
    refine c_Mo_methodAt ?_
    show pV Γ m_Mo_code 17 [some (.ref m), some (.int x), some (.int y), some (.int z), none, none] [.int (nI (23 + 21 * j))] _ G 0 0 Q
    refine V_iconst (v := nI 2) d_Mo_code_17 (by decide +kernel) ?_
    refine V_iaddN d_Mo_code_18 ?_
    refine V_istore d_Mo_code_19 (Nat.le_of_ble_eq_true rfl) ?_
    show pV Γ _ _ [some (.ref m), some (.int x), some (.int y), some (.int z), some (.int (nI (23 + 21 * j + 2))), none] _ _ _ _ _ _
    refine V_aload_n d_Mo_code_21 rfl ?_
    refine V_iconst (v := nI 0) d_Mo_code_22 (by decide +kernel) ?_
    refine V_iload d_Mo_code_23 rfl ?_
    refine V_callV (As := [.int (nI 0), .int (nI (23 + 21 * j + 2))]) (rest := []) (lo' := [some (.ref m), some (.int (nI 0)), some (.int (nI (23 + 21 * j + 2)))]) (bc1 := 0) (bs1 := 0) (bc' := 0) (bs' := 0) d_Mo_code_25 k_Mo_code_69 hH rfl rfl rfl rfl (by rfl) (by rfl) ?_
    refine c_Mo_get hH hF (by omega) ?_
    rw [(hr8 j hj).2.2.1]
    show pV Γ m_Mo_code 28 [some (.ref m), some (.int x), some (.int y), some (.int z), some (.int (nI (23 + 21 * j + 2))), none] [.int (nI (dL D j))] _ G 0 0 Q
    refine V_istore d_Mo_code_28 (Nat.le_of_ble_eq_true rfl) ?_
    show pV Γ _ _ [some (.ref m), some (.int x), some (.int y), some (.int z), some (.int (nI (23 + 21 * j + 2))), some (.int (nI (dL D j)))] _ _ _ _ _ _
    refine V_iload d_Mo_code_30 rfl ?_
    refine V_bipush (v := nI 6) d_Mo_code_32 (by decide +kernel) ?_
    refine V_icmp_neN (tgt := 39) d_Mo_code_34 (by decide) (by omega) (by omega) (fun hb34 => ?_) (fun hb34 => ?_)
    · refine V_aload_n d_Mo_code_39 rfl ?_
      refine V_iconst (v := nI 0) d_Mo_code_40 (by decide +kernel) ?_
      refine V_iload d_Mo_code_41 rfl ?_
      refine V_iconst (v := nI 1) d_Mo_code_43 (by decide +kernel) ?_
      refine V_iaddN d_Mo_code_44 ?_
      refine V_iconst (v := nI 3) d_Mo_code_45 (by decide +kernel) ?_
      refine V_iload d_Mo_code_46 rfl ?_
      refine V_imulN d_Mo_code_48 ?_
      refine V_iaddN d_Mo_code_49 ?_
      refine V_iload_n d_Mo_code_50 rfl ?_
      refine V_callV (As := [.int (nI 0), .int (nI (23 + 21 * j + 2 + 1 + (3 * (dL D j)))), .int x]) (rest := []) (lo' := [some (.ref m), some (.int (nI 0)), some (.int (nI (23 + 21 * j + 2 + 1 + (3 * (dL D j))))), some (.int x)]) (bc1 := 0) (bs1 := 0) (bc' := 0) (bs' := 0) d_Mo_code_51 k_Mo_code_73 hH rfl rfl rfl rfl (by rfl) (by rfl) ?_
      refine c_Mo_put hH hF (by omega) (fun G1 hFz ho1 => ?_)
      have hF := hFz
      have hH := (ho1 _ (by omega)).trans hH
      show pV Γ m_Mo_code 54 [some (.ref m), some (.int x), some (.int y), some (.int z), some (.int (nI (23 + 21 * j + 2))), some (.int (nI (dL D j)))] [] _ G1 0 0 Q
      refine V_aload_n d_Mo_code_54 rfl ?_
      refine V_iconst (v := nI 0) d_Mo_code_55 (by decide +kernel) ?_
      refine V_iload d_Mo_code_56 rfl ?_
      refine V_iconst (v := nI 2) d_Mo_code_58 (by decide +kernel) ?_
      refine V_iaddN d_Mo_code_59 ?_
      refine V_iconst (v := nI 3) d_Mo_code_60 (by decide +kernel) ?_
      refine V_iload d_Mo_code_61 rfl ?_
      refine V_imulN d_Mo_code_63 ?_
      refine V_iaddN d_Mo_code_64 ?_
      refine V_iload_n d_Mo_code_65 rfl ?_
      refine V_callV (As := [.int (nI 0), .int (nI (23 + 21 * j + 2 + 2 + (3 * (dL D j)))), .int y]) (rest := []) (lo' := [some (.ref m), some (.int (nI 0)), some (.int (nI (23 + 21 * j + 2 + 2 + (3 * (dL D j))))), some (.int y)]) (bc1 := 0) (bs1 := 0) (bc' := 0) (bs' := 0) d_Mo_code_66 k_Mo_code_73 hH rfl rfl rfl rfl (by rfl) (by rfl) ?_
      refine c_Mo_put hH hF (by omega) (fun G2 hFz ho2 => ?_)
      have hF := hFz
      have hH := (ho2 _ (by omega)).trans hH
      show pV Γ m_Mo_code 69 [some (.ref m), some (.int x), some (.int y), some (.int z), some (.int (nI (23 + 21 * j + 2))), some (.int (nI (dL D j)))] [] _ G2 0 0 Q
      refine V_aload_n d_Mo_code_69 rfl ?_
      refine V_iconst (v := nI 0) d_Mo_code_70 (by decide +kernel) ?_
      refine V_iload d_Mo_code_71 rfl ?_
      refine V_iconst (v := nI 3) d_Mo_code_73 (by decide +kernel) ?_
      refine V_iaddN d_Mo_code_74 ?_
      refine V_iconst (v := nI 3) d_Mo_code_75 (by decide +kernel) ?_
      refine V_iload d_Mo_code_76 rfl ?_
      refine V_imulN d_Mo_code_78 ?_
      refine V_iaddN d_Mo_code_79 ?_
      refine V_iload_n d_Mo_code_80 rfl ?_
      refine V_callV (As := [.int (nI 0), .int (nI (23 + 21 * j + 2 + 3 + (3 * (dL D j)))), .int z]) (rest := []) (lo' := [some (.ref m), some (.int (nI 0)), some (.int (nI (23 + 21 * j + 2 + 3 + (3 * (dL D j))))), some (.int z)]) (bc1 := 0) (bs1 := 0) (bc' := 0) (bs' := 0) d_Mo_code_81 k_Mo_code_73 hH rfl rfl rfl rfl (by rfl) (by rfl) ?_
      refine c_Mo_put hH hF (by omega) (fun G3 hFz ho3 => ?_)
      have hF := hFz
      have hH := (ho3 _ (by omega)).trans hH
      show pV Γ m_Mo_code 84 [some (.ref m), some (.int x), some (.int y), some (.int z), some (.int (nI (23 + 21 * j + 2))), some (.int (nI (dL D j)))] [] _ G3 0 0 Q
      refine V_aload_n d_Mo_code_84 rfl ?_
      refine V_iconst (v := nI 0) d_Mo_code_85 (by decide +kernel) ?_
      refine V_iload d_Mo_code_86 rfl ?_
      refine V_iload d_Mo_code_88 rfl ?_
      refine V_iconst (v := nI 1) d_Mo_code_90 (by decide +kernel) ?_
      refine V_iaddN d_Mo_code_91 ?_
      refine V_callV (As := [.int (nI 0), .int (nI (23 + 21 * j + 2)), .int (nI (dL D j + 1))]) (rest := []) (lo' := [some (.ref m), some (.int (nI 0)), some (.int (nI (23 + 21 * j + 2))), some (.int (nI (dL D j + 1)))]) (bc1 := 0) (bs1 := 0) (bc' := 0) (bs' := 0) d_Mo_code_92 k_Mo_code_73 hH rfl rfl rfl rfl (by rfl) (by rfl) ?_
      refine c_Mo_put hH hF (by omega) (fun G4 hFz ho4 => ?_)
      have hF := hFz
      have hH := (ho4 _ (by omega)).trans hH
      show pV Γ m_Mo_code 95 [some (.ref m), some (.int x), some (.int y), some (.int z), some (.int (nI (23 + 21 * j + 2))), some (.int (nI (dL D j)))] [] _ G4 0 0 Q
      refine V_iconst (v := nI 1) d_Mo_code_95 (by decide +kernel) ?_
      exact V_zreturn d_Mo_code_96 rfl (by first | exact pB_or _ | exact Or.inl rfl | exact Or.inr rfl) (hS (by omega) _ _ hH hF (cd_row hR hj (by omega)) (fun x hx => by rw [pk_un (by omega), pk_un (by omega), pk_un (by omega), pk_un (by omega)]) (fun q hq => by rw [ho4 q (by omega), ho3 q (by omega), ho2 q (by omega), ho1 q (by omega)]))
    · refine V_iconst (v := nI 0) d_Mo_code_37 (by decide +kernel) ?_
      exact V_zreturn d_Mo_code_38 rfl (by first | exact pB_or _ | exact Or.inl rfl | exact Or.inr rfl) (hN hb34)
  · exact nI_ne1 (by omega)
theorem c_Mo_codeF {Γ : pmE} {G : pmG} {n : Nat} {Q : pmPost} {m : Nat} {ba : Int32} {x y z : Int32} (hH : G m = some (.inr (kMo, moFs m (-1) ba))) (hN : Q (some (.int (nI 0))) n G) : pV Γ m_Mo_code 0 [some (.ref m), some (.int x), some (.int y), some (.int z), none, none] [] n G 0 0 Q := by
  refine V_aload_n d_Mo_code_0 rfl ?_
  refine V_getf d_Mo_code_1 f_Mo_13 hH rfl ?_
  refine V_iconst (v := (-1)) d_Mo_code_4 (by decide +kernel) ?_
  refine V_icmp_ne (tgt := 10) d_Mo_code_5 (by decide) (fun hb5 => ?_) (fun hb5 => ?_)
  · exact absurd rfl hb5
  · refine V_iconst (v := nI 0) d_Mo_code_8 (by decide +kernel) ?_
    exact V_zreturn d_Mo_code_9 rfl (by first | exact pB_or _ | exact Or.inl rfl | exact Or.inr rfl) (hN)
