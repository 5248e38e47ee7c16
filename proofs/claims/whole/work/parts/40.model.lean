/-! The reference: its cells, rows, and small methods. -/
abbrev moFs (m : Nat) (ch ba : Int32) : List Value := [.ref (m + 1), .int ch, .ref (m + 2), .ref (m + 3), .ref (m + 4), .ref (m + 5), .ref (m + 6), .ref (m + 7), .ref (m + 8), .ref (m + 9), .ref (m + 10), .int ba, .ref (m + 11), .ref (m + 12), .ref (m + 13), .ref (m + 14), .ref (m + 15), .ref (m + 16), .ref (m + 17)]
theorem upd_nI (f : Nat → Nat) (k v : Nat) : upd (fun j => nI (f j)) k (nI v) = fun j => nI (va_up f k v j) := by
  funext j
  by_cases h : j = k
  · rw [h, pk_us, va_up_self]
  · rw [pk_un h, va_up_ne _ _ h]
theorem upd_pB (f : Nat → Bool) (k : Nat) (v : Bool) : upd (fun j => pB (f j = true)) k (pB (v = true)) = fun j => pB (va_up f k v j = true) := by
  funext j
  by_cases h : j = k
  · rw [h, pk_us, va_up_self]
  · rw [pk_un h, va_up_ne _ _ h]
theorem upd_p0 (f : Nat → Bool) (k : Nat) : upd (fun j => pB (f j = true)) k (nI 0) = fun j => pB (va_up f k false j = true) := by
  rw [← upd_pB, pB_f (by decide : ¬ (false = true))]
theorem upd_p1 (f : Nat → Bool) (k : Nat) : upd (fun j => pB (f j = true)) k (nI 1) = fun j => pB (va_up f k true j = true) := by
  rw [← upd_pB, pB_t (rfl : true = true)]
-- a row of the reference holds a definition
def isRow (f : Nat → Int32) (r : Nat) (D : Dfn) : Prop := dOk D ∧ (∀ k, k < 5 → f (107 * r + k) = dP D k) ∧ f (107 * r + 5) = nI (dNi D) ∧ (∀ k, k < dNi D → f (107 * r + (6 + k)) = dI D k) ∧ f (107 * r + 9) = nI (dNf D) ∧ (∀ k, k < 3 * dNf D → f (107 * r + (10 + k)) = dF D k) ∧ f (107 * r + 22) = nI (dNm D) ∧
  ∀ j, j < dNm D → f (107 * r + (23 + 21 * j)) = dN D j ∧ f (107 * r + (23 + 21 * j + 1)) = dG D j ∧ f (107 * r + (23 + 21 * j + 2)) = nI (dL D j) ∧ ∀ k, k < 3 * dL D j → f (107 * r + (23 + 21 * j + 3 + k)) = dC D j k
theorem isRow.kept {f f' : Nat → Int32} {r : Nat} {D : Dfn} (h : isRow f r D) (hq : ∀ x, 107 * r ≤ x → x < 107 * r + 107 → f' x = f x) : isRow f' r D := by
  obtain ⟨⟨o1, o2, o3, o4⟩, h1, h2, h3, h4, h5, h6, h7⟩ := h
  refine ⟨⟨o1, o2, o3, o4⟩, fun k hk => by rw [hq _ (by omega) (by omega)]; exact h1 k hk, by rw [hq _ (by omega) (by omega)]; exact h2, fun k hk => by rw [hq _ (by omega) (by omega)]; exact h3 k hk, by rw [hq _ (by omega) (by omega)]; exact h4, fun k hk => by rw [hq _ (by omega) (by omega)]; exact h5 k hk, by rw [hq _ (by omega) (by omega)]; exact h6, fun j hj => ?_⟩
  obtain ⟨g1, g2, g3, g4⟩ := h7 j hj
  have := o4 j hj
  exact ⟨by rw [hq _ (by omega) (by omega)]; exact g1, by rw [hq _ (by omega) (by omega)]; exact g2, by rw [hq _ (by omega) (by omega)]; exact g3, fun k hk => by rw [hq _ (by omega) (by omega)]; exact g4 k hk⟩
theorem isRow.cpy {f f' : Nat → Int32} {r s : Nat} {D : Dfn} (h : isRow f r D) (hq : ∀ k, k < 107 → f' (107 * s + k) = f (107 * r + k)) : isRow f' s D := by
  obtain ⟨⟨o1, o2, o3, o4⟩, h1, h2, h3, h4, h5, h6, h7⟩ := h
  refine ⟨⟨o1, o2, o3, o4⟩, fun k hk => by rw [hq _ (by omega)]; exact h1 k hk, by rw [hq _ (by omega)]; exact h2, fun k hk => by rw [hq _ (by omega)]; exact h3 k hk, by rw [hq _ (by omega)]; exact h4, fun k hk => by rw [hq _ (by omega)]; exact h5 k hk, by rw [hq _ (by omega)]; exact h6, fun j hj => ?_⟩
  obtain ⟨g1, g2, g3, g4⟩ := h7 j hj
  have := o4 j hj
  exact ⟨by rw [hq _ (by omega)]; exact g1, by rw [hq _ (by omega)]; exact g2, by rw [hq _ (by omega)]; exact g3, fun k hk => by rw [hq _ (by omega)]; exact g4 k hk⟩
theorem c_Mo_get {Γ : pmE} {G : pmG} {n : Nat} {Q : pmPost} {m : Nat} {ch ba : Int32} {f : Nat → Int32} {r a : Nat} (hH : G m = some (.inr (kMo, moFs m ch ba))) (hF : G (m + 1) = some (.inl (0, 4387, .inl f))) (hr : 107 * r + a < 4387) (hQ : Q (some (.int (f (107 * r + a)))) n G) : pV Γ m_Mo_get 0 [some (.ref m), some (.int (nI r)), some (.int (nI a))] [] n G 0 0 Q := by
  refine V_aload_n d_Mo_get_0 rfl ?_
  refine V_getf d_Mo_get_1 f_Mo_7 hH rfl ?_
  refine V_bipush (v := nI 107) d_Mo_get_4 (by decide +kernel) ?_
  refine V_iload_n d_Mo_get_6 rfl ?_
  refine V_imulN d_Mo_get_7 ?_
  refine V_iload_n d_Mo_get_8 rfl ?_
  refine V_iaddN d_Mo_get_9 ?_
  refine V_iaload (j := 107 * r + a) d_Mo_get_10 rfl hF rfl (by omega) (by omega) ?_
  exact V_ireturn d_Mo_get_11 rfl (hQ)
theorem c_Mo_put {Γ : pmE} {G : pmG} {n : Nat} {Q : pmPost} {m : Nat} {ch ba : Int32} {f : Nat → Int32} {r a : Nat} {v : Int32} (hH : G m = some (.inr (kMo, moFs m ch ba))) (hF : G (m + 1) = some (.inl (0, 4387, .inl f))) (hr : 107 * r + a < 4387) (hQ : ∀ G', G' (m + 1) = some (.inl (0, 4387, .inl (upd f (107 * r + a) v))) → (∀ q, q ≠ m + 1 → G' q = G q) → Q none n G') : pV Γ m_Mo_put 0 [some (.ref m), some (.int (nI r)), some (.int (nI a)), some (.int v)] [] n G 0 0 Q := by
  refine V_aload_n d_Mo_put_0 rfl ?_
  refine V_getf d_Mo_put_1 f_Mo_7 hH rfl ?_
  refine V_bipush (v := nI 107) d_Mo_put_4 (by decide +kernel) ?_
  refine V_iload_n d_Mo_put_6 rfl ?_
  refine V_imulN d_Mo_put_7 ?_
  refine V_iload_n d_Mo_put_8 rfl ?_
  refine V_iaddN d_Mo_put_9 ?_
  refine V_iload_n d_Mo_put_10 rfl ?_
  refine V_iastore (j := 107 * r + a) d_Mo_put_11 rfl hF rfl (by omega) (by omega) (fun G1 hFz ho1 => ?_)
  have hF := hFz
  have hH := (ho1 _ (by omega)).trans hH
  exact V_return d_Mo_put_12 rfl (hQ G1 hF ho1)
set_option maxHeartbeats 1000000 in
theorem c_Mo_transcribe {Γ : pmE} {G : pmG} {n : Nat} {Q : pmPost} {m : Nat} {ch ba : Int32} {f : Nat → Int32} {r s : Nat} (hH : G m = some (.inr (kMo, moFs m ch ba))) (hF : G (m + 1) = some (.inl (0, 4387, .inl f))) (hr : r < 41) (hs : s < 41) (hne : r ≠ s) (hQ : ∀ G' g, G' (m + 1) = some (.inl (0, 4387, .inl g)) → (∀ k, k < 107 → g (107 * s + k) = f (107 * r + k)) → (∀ x, (x < 107 * s ∨ 107 * s + 107 ≤ x) → g x = f x) → (∀ q, q ≠ m + 1 → G' q = G q) → Q none n G') : pV Γ m_Mo_transcribe 0 [some (.ref m), some (.int (nI r)), some (.int (nI s)), none] [] n G 0 0 Q := by
  have loop : ∀ (d i : Nat), i ≤ 107 → 107 - i < d → ∀ (G1 : pmG) (g : Nat → Int32), G1 m = some (.inr (kMo, moFs m ch ba)) → G1 (m + 1) = some (.inl (0, 4387, .inl g)) → (∀ k, k < i → g (107 * s + k) = f (107 * r + k)) → (∀ x, (x < 107 * s ∨ 107 * s + i ≤ x) → g x = f x) → (∀ q, q ≠ m + 1 → G1 q = G q) → pV Γ m_Mo_transcribe 2 [some (.ref m), some (.int (nI r)), some (.int (nI s)), some (.int (nI i))] [] n G1 0 0 Q := by
    intro d
    induction d with
    | zero => intro i _ hd; exact absurd hd (by omega)
    | succ d ih =>
      intro i hi hd G1 g hH hF hg1 hg2 ho
      refine V_iload_n d_Mo_transcribe_2 rfl ?_
      refine V_bipush (v := nI 107) d_Mo_transcribe_3 (by decide +kernel) ?_
      refine V_icmp_geN (tgt := 26) d_Mo_transcribe_5 (by decide) (by omega) (by omega) (fun hb5 => ?_) (fun hb5 => ?_)
      · exact V_return d_Mo_transcribe_26 rfl (hQ G1 g hF (fun k hk => hg1 k (by omega)) (fun x hx => hg2 x (by omega)) ho)
      · refine V_aload_n d_Mo_transcribe_8 rfl ?_
        refine V_iload_n d_Mo_transcribe_9 rfl ?_
        refine V_iload_n d_Mo_transcribe_10 rfl ?_
        refine V_aload_n d_Mo_transcribe_11 rfl ?_
        refine V_iload_n d_Mo_transcribe_12 rfl ?_
        refine V_iload_n d_Mo_transcribe_13 rfl ?_
        refine V_callV (As := [.int (nI r), .int (nI i)]) (rest := [.int (nI i), .int (nI s), .ref m]) (lo' := [some (.ref m), some (.int (nI r)), some (.int (nI i))]) (bc1 := 0) (bs1 := 0) (bc' := 0) (bs' := 0) d_Mo_transcribe_14 k_Mo_transcribe_69 hH rfl rfl rfl rfl (by rfl) (by rfl) ?_
        refine c_Mo_get hH hF (by omega) ?_
        show pV Γ m_Mo_transcribe 17 [some (.ref m), some (.int (nI r)), some (.int (nI s)), some (.int (nI i))] [.int ((g (107 * r + i))), .int (nI i), .int (nI s), .ref m] _ G1 0 0 Q
        refine V_callV (As := [.int (nI s), .int (nI i), .int ((g (107 * r + i)))]) (rest := []) (lo' := [some (.ref m), some (.int (nI s)), some (.int (nI i)), some (.int ((g (107 * r + i))))]) (bc1 := 0) (bs1 := 0) (bc' := 0) (bs' := 0) d_Mo_transcribe_17 k_Mo_transcribe_73 hH rfl rfl rfl rfl (by rfl) (by rfl) ?_
        refine c_Mo_put hH hF (by omega) (fun G2 hF2 ho2 => ?_)
        show pV Γ m_Mo_transcribe 20 [some (.ref m), some (.int (nI r)), some (.int (nI s)), some (.int (nI i))] [] _ G2 0 0 Q
        refine V_iincN d_Mo_transcribe_20 rfl ?_
        show pV Γ _ _ [some (.ref m), some (.int (nI r)), some (.int (nI s)), some (.int (nI (i + 1)))] _ _ _ _ _ _
        refine V_goto (tgt := 2) d_Mo_transcribe_23 (by decide) ?_
        refine ih (i + 1) (by omega) (by omega) G2 _ ((ho2 _ (by omega)).trans hH) hF2 (fun k hk => ?_) (fun x hx => ?_) (fun q hq => by rw [ho2 q (by omega), ho q hq])
        · by_cases e : k = i
          · rw [e, pk_us]; exact hg2 _ (by omega)
          · rw [pk_un (by omega)]; exact hg1 k (by omega)
        · rw [pk_un (by omega)]; exact hg2 x (by omega)
  refine V_iconst (v := nI 0) d_Mo_transcribe_0 (by decide +kernel) ?_
  refine V_istore_n d_Mo_transcribe_1 (Nat.le_of_ble_eq_true rfl) ?_
  show pV Γ _ _ [some (.ref m), some (.int (nI r)), some (.int (nI s)), some (.int (nI 0))] _ _ _ _ _ _
  exact loop 108 0 (by omega) (by omega) G f hH hF (fun k hk => absurd hk (by omega)) (fun x _ => rfl) (fun q _ => rfl)
theorem c_Mo_methodAt {Γ : pmE} {G : pmG} {n : Nat} {Q : pmPost} {j : Nat} (hQ : Q (some (.int (nI (23 + 21 * j)))) n G) : pV Γ m_Mo_methodAt 0 [some (.int (nI j))] [] n G 0 0 Q := by
  refine V_bipush (v := nI 23) d_Mo_methodAt_0 (by decide +kernel) ?_
  refine V_bipush (v := nI 21) d_Mo_methodAt_2 (by decide +kernel) ?_
  refine V_iload_n d_Mo_methodAt_4 rfl ?_
  refine V_imulN d_Mo_methodAt_5 ?_
  refine V_iaddN d_Mo_methodAt_6 ?_
  exact V_ireturn d_Mo_methodAt_7 rfl (hQ)
theorem nI_lts {x : Int32} {k : Nat} (hk : k + 1 < 2 ^ 31) : nI k < x ↔ nI (k + 1) ≤ x := by
  rw [Int32.lt_iff_toInt_lt, Int32.le_iff_toInt_le, nI_toInt (by omega), nI_toInt (by omega)]
  omega
theorem nI3 {x : Int32} (h : nI 2 < x) : nI 3 ≤ x := (nI_lts (by omega)).mp h
theorem nI3' {x : Int32} (h : nI 3 ≤ x) : nI 2 < x := (nI_lts (by omega)).mpr h
theorem c_Mo_isThread {Γ : pmE} {G : pmG} {n : Nat} {Q : pmPost} {x : Int32} (hQ : Q (some (.int (pB (∃ j, j < 3 ∧ x = nI j)))) n G) : pV Γ m_Mo_isThread 0 [some (.int x)] [] n G 0 0 Q := by
  refine V_iload_n d_Mo_isThread_0 rfl ?_
  refine V_if_lt (tgt := 13) d_Mo_isThread_1 (by decide) (fun hb1 => ?_) (fun hb1 => ?_)
  · refine V_iconst (v := nI 0) d_Mo_isThread_13 (by decide +kernel) ?_
    exact V_zreturn d_Mo_isThread_14 rfl (by first | exact pB_or _ | exact Or.inl rfl | exact Or.inr rfl) (pQ_f hQ (fun ⟨j, hj, e⟩ => nI_out (n := 3) (by omega) hj (Or.inl hb1) e))
  · refine V_iload_n d_Mo_isThread_4 rfl ?_
    refine V_iconst (v := nI 2) d_Mo_isThread_5 (by decide +kernel) ?_
    refine V_icmp_gt (tgt := 13) d_Mo_isThread_6 (by decide) (fun hb6 => ?_) (fun hb6 => ?_)
    · refine V_iconst (v := nI 0) d_Mo_isThread_13 (by decide +kernel) ?_
      exact V_zreturn d_Mo_isThread_14 rfl (by first | exact pB_or _ | exact Or.inl rfl | exact Or.inr rfl) (pQ_f hQ (fun ⟨j, hj, e⟩ => nI_out (n := 3) (by omega) hj (Or.inr (nI3 hb6)) e))
    · refine V_iconst (v := nI 1) d_Mo_isThread_9 (by decide +kernel) ?_
      refine V_goto (tgt := 14) d_Mo_isThread_10 (by decide) ?_
      exact V_zreturn d_Mo_isThread_14 rfl (by first | exact pB_or _ | exact Or.inl rfl | exact Or.inr rfl) (pQ_t hQ ((pk_ix x (n := 3) (by omega)).elim (fun h => absurd h hb1) (fun h => h.elim (fun h => absurd (nI3' h) hb6) id)))
set_option maxHeartbeats 1000000 in
theorem c_Mo_loaded {Γ : pmE} {G : pmG} {n : Nat} {Q : pmPost} {m : Nat} {ch ba : Int32} {cu : Nat → Nat} {x : Int32} (hH : G m = some (.inr (kMo, moFs m ch ba))) (hCu : G (m + 2) = some (.inl (0, 6, .inl (fun j => nI (cu j))))) (hcu : ∀ c, c < 6 → cu c < 41) (hQ : Q (some (.int (pB (∃ c, c < 6 ∧ x = nI c ∧ 0 < cu c)))) n G) : pV Γ m_Mo_loaded 0 [some (.ref m), some (.int x)] [] n G 0 0 Q := by
  refine V_iload_n d_Mo_loaded_0 rfl ?_
  refine V_if_lt (tgt := 22) d_Mo_loaded_1 (by decide) (fun hb1 => ?_) (fun hb1 => ?_)
  · refine V_iconst (v := nI 0) d_Mo_loaded_22 (by decide +kernel) ?_
    exact V_zreturn d_Mo_loaded_23 rfl (by first | exact pB_or _ | exact Or.inl rfl | exact Or.inr rfl) (by first | exact pQ_t hQ ⟨c, hc, hx, hb15⟩ | exact pQ_f hQ (fun ⟨c', hc', hx', h0⟩ => by have e : c = c' := (nI_eq (by omega) (by omega)).mp (hx.symm.trans hx'); subst e; omega) | exact pQ_f hQ (fun ⟨c', hc', hx', h0⟩ => nI_out (n := 6) (by omega) hc' (Or.inl hb1) hx') | exact pQ_f hQ (fun ⟨c', hc', hx', h0⟩ => nI_out (n := 6) (by omega) hc' (Or.inr ((nI_lts (k := 5) (by omega)).mp hb6)) hx'))
  · refine V_iload_n d_Mo_loaded_4 rfl ?_
    refine V_iconst (v := nI 5) d_Mo_loaded_5 (by decide +kernel) ?_
    refine V_icmp_gt (tgt := 22) d_Mo_loaded_6 (by decide) (fun hb6 => ?_) (fun hb6 => ?_)
    · refine V_iconst (v := nI 0) d_Mo_loaded_22 (by decide +kernel) ?_
      exact V_zreturn d_Mo_loaded_23 rfl (by first | exact pB_or _ | exact Or.inl rfl | exact Or.inr rfl) (by first | exact pQ_t hQ ⟨c, hc, hx, hb15⟩ | exact pQ_f hQ (fun ⟨c', hc', hx', h0⟩ => by have e : c = c' := (nI_eq (by omega) (by omega)).mp (hx.symm.trans hx'); subst e; omega) | exact pQ_f hQ (fun ⟨c', hc', hx', h0⟩ => nI_out (n := 6) (by omega) hc' (Or.inl hb1) hx') | exact pQ_f hQ (fun ⟨c', hc', hx', h0⟩ => nI_out (n := 6) (by omega) hc' (Or.inr ((nI_lts (k := 5) (by omega)).mp hb6)) hx'))
    · refine V_aload_n d_Mo_loaded_9 rfl ?_
      refine V_getf d_Mo_loaded_10 f_Mo_17 hH rfl ?_
      refine V_iload_n d_Mo_loaded_13 rfl ?_
      obtain ⟨c, hc, hx⟩ := ((pk_ix x (n := 6) (by omega)).resolve_left hb1).resolve_left (fun h => hb6 ((nI_lts (k := 5) (by omega)).mpr h))
      have hc41 := hcu c hc
      refine V_iaload (j := c) d_Mo_loaded_14 rfl hCu hx hc (by omega) ?_
      show pV Γ _ _ _ [.int (nI (cu c))] _ _ _ _ _
      refine V_if_leN (tgt := 22) d_Mo_loaded_15 (by decide) (by omega) (fun hb15 => ?_) (fun hb15 => ?_)
      · refine V_iconst (v := nI 0) d_Mo_loaded_22 (by decide +kernel) ?_
        exact V_zreturn d_Mo_loaded_23 rfl (by first | exact pB_or _ | exact Or.inl rfl | exact Or.inr rfl) (by first | exact pQ_t hQ ⟨c, hc, hx, hb15⟩ | exact pQ_f hQ (fun ⟨c', hc', hx', h0⟩ => by have e : c = c' := (nI_eq (by omega) (by omega)).mp (hx.symm.trans hx'); subst e; omega) | exact pQ_f hQ (fun ⟨c', hc', hx', h0⟩ => nI_out (n := 6) (by omega) hc' (Or.inl hb1) hx') | exact pQ_f hQ (fun ⟨c', hc', hx', h0⟩ => nI_out (n := 6) (by omega) hc' (Or.inr ((nI_lts (k := 5) (by omega)).mp hb6)) hx'))
      · refine V_iconst (v := nI 1) d_Mo_loaded_18 (by decide +kernel) ?_
        refine V_goto (tgt := 23) d_Mo_loaded_19 (by decide) ?_
        exact V_zreturn d_Mo_loaded_23 rfl (by first | exact pB_or _ | exact Or.inl rfl | exact Or.inr rfl) (by first | exact pQ_t hQ ⟨c, hc, hx, hb15⟩ | exact pQ_f hQ (fun ⟨c', hc', hx', h0⟩ => by have e : c = c' := (nI_eq (by omega) (by omega)).mp (hx.symm.trans hx'); subst e; omega) | exact pQ_f hQ (fun ⟨c', hc', hx', h0⟩ => nI_out (n := 6) (by omega) hc' (Or.inl hb1) hx') | exact pQ_f hQ (fun ⟨c', hc', hx', h0⟩ => nI_out (n := 6) (by omega) hc' (Or.inr ((nI_lts (k := 5) (by omega)).mp hb6)) hx'))
set_option maxHeartbeats 1000000 in
theorem c_Mo_find {Γ : pmE} {G : pmG} {n : Nat} {Q : pmPost} {m : Nat} {ch ba : Int32} {f : Nat → Int32} {r : Nat} {y : Int32} {D : Dfn} (hH : G m = some (.inr (kMo, moFs m ch ba))) (hF : G (m + 1) = some (.inl (0, 4387, .inl f))) (hr : r < 41) (hR : isRow f r D) (hN : (∀ j, j < dNm D → dN D j ≠ y) → Q (some (.int (-1))) n G) (hS : ∀ j, dFst D y j → Q (some (.int (nI (23 + 21 * j)))) n G) : pV Γ m_Mo_find 0 [some (.ref m), some (.int (nI r)), some (.int y), none] [] n G 0 0 Q := by
  obtain ⟨⟨o1, o2, o3, o4⟩, hr1, hr2, hr3, hr4, hr5, hr7, hr8⟩ := hR
  have loop : ∀ (d i : Nat), i ≤ dNm D → dNm D - i < d → (∀ k, k < i → dN D k ≠ y) → pV Γ m_Mo_find 2 [some (.ref m), some (.int (nI r)), some (.int y), some (.int (nI i))] [] n G 0 0 Q := by
    intro d
    induction d with
    | zero => intro i _ hd; exact absurd hd (by omega)
    | succ d ih =>
      intro i hi hd hv
      refine V_iload_n d_Mo_find_2 rfl ?_
      refine V_aload_n d_Mo_find_3 rfl ?_
      refine V_iload_n d_Mo_find_4 rfl ?_
      refine V_bipush (v := nI 22) d_Mo_find_5 (by decide +kernel) ?_
      refine V_callV (As := [.int (nI r), .int (nI 22)]) (rest := [.int (nI i)]) (lo' := [some (.ref m), some (.int (nI r)), some (.int (nI 22))]) (bc1 := 0) (bs1 := 0) (bc' := 0) (bs' := 0) d_Mo_find_7 k_Mo_find_69 hH rfl rfl rfl rfl (by rfl) (by rfl) ?_
      refine c_Mo_get hH hF (by omega) ?_
      rw [hr7]
      show pV Γ m_Mo_find 10 [some (.ref m), some (.int (nI r)), some (.int y), some (.int (nI i))] [.int (nI (dNm D)), .int (nI i)] _ G 0 0 Q
      refine V_icmp_geN (tgt := 37) d_Mo_find_10 (by decide) (by omega) (by omega) (fun hb10 => ?_) (fun hb10 => ?_)
      · refine V_iconst (v := (-1)) d_Mo_find_37 (by decide +kernel) ?_
        exact V_ireturn d_Mo_find_38 rfl (hN (fun k hk => hv k (by omega)))
      · refine V_aload_n d_Mo_find_13 rfl ?_
        refine V_iload_n d_Mo_find_14 rfl ?_
        refine V_iload_n d_Mo_find_15 rfl ?_
        refine V_callS (As := [.int (nI i)]) (rest := [.int (nI r), .ref m]) (lo' := [some (.int (nI i))]) (bc1 := 0) (bs1 := 0) (bc' := 0) (bs' := 0) d_Mo_find_16 k_Mo_find_85 rfl rfl rfl rfl (by rfl) (by rfl) ?_
        refine c_Mo_methodAt ?_
        show pV Γ m_Mo_find 19 [some (.ref m), some (.int (nI r)), some (.int y), some (.int (nI i))] [.int (nI (23 + 21 * i)), .int (nI r), .ref m] _ G 0 0 Q
        refine V_callV (As := [.int (nI r), .int (nI (23 + 21 * i))]) (rest := []) (lo' := [some (.ref m), some (.int (nI r)), some (.int (nI (23 + 21 * i)))]) (bc1 := 0) (bs1 := 0) (bc' := 0) (bs' := 0) d_Mo_find_19 k_Mo_find_69 hH rfl rfl rfl rfl (by rfl) (by rfl) ?_
        refine c_Mo_get hH hF (by omega) ?_
        rw [(hr8 i (by omega)).1]
        show pV Γ m_Mo_find 22 [some (.ref m), some (.int (nI r)), some (.int y), some (.int (nI i))] [.int ((dN D i))] _ G 0 0 Q
        refine V_iload_n d_Mo_find_22 rfl ?_
        refine V_icmp_ne (tgt := 31) d_Mo_find_23 (by decide) (fun hb23 => ?_) (fun hb23 => ?_)
        · refine V_iincN d_Mo_find_31 rfl ?_
          show pV Γ _ _ [some (.ref m), some (.int (nI r)), some (.int y), some (.int (nI (i + 1)))] _ _ _ _ _ _
          refine V_goto (tgt := 2) d_Mo_find_34 (by decide) ?_
          exact ih (i + 1) (by omega) (by omega) (fun k hk => by
            rcases Nat.lt_or_ge k i with q | q
            · exact hv k q
            · rw [show k = i by omega]; exact hb23)
        · refine V_iload_n d_Mo_find_26 rfl ?_
          refine V_callS (As := [.int (nI i)]) (rest := []) (lo' := [some (.int (nI i))]) (bc1 := 0) (bs1 := 0) (bc' := 0) (bs' := 0) d_Mo_find_27 k_Mo_find_85 rfl rfl rfl rfl (by rfl) (by rfl) ?_
          refine c_Mo_methodAt ?_
          show pV Γ m_Mo_find 30 [some (.ref m), some (.int (nI r)), some (.int y), some (.int (nI i))] [.int (nI (23 + 21 * i))] _ G 0 0 Q
          exact V_ireturn d_Mo_find_30 rfl (hS i ⟨by omega, hb23, hv⟩)
  refine V_iconst (v := nI 0) d_Mo_find_0 (by decide +kernel) ?_
  refine V_istore_n d_Mo_find_1 (Nat.le_of_ble_eq_true rfl) ?_
  show pV Γ _ _ [some (.ref m), some (.int (nI r)), some (.int y), some (.int (nI 0))] _ _ _ _ _ _
  exact loop (dNm D + 1) 0 (by omega) (by omega) (fun k hk => absurd hk (by omega))
