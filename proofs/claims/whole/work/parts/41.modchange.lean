/-! The reference: change, changes, treat. -/
theorem isRow.part {f : Nat → Int32} {r k : Nat} {v : Int32} {D : Dfn} (h : isRow f r D) (hk : k < 5) : isRow (upd f (107 * r + k) v) r (dSetP D (upd (dP D) k v)) := by
  obtain ⟨⟨o1, o2, o3, o4⟩, h1, h2, h3, h4, h5, h6, h7⟩ := h
  refine ⟨⟨o1, o2, o3, o4⟩, fun i hi => ?_, by rw [pk_un (by omega)]; exact h2, fun i hi => by rw [pk_un (by omega)]; exact h3 i hi, by rw [pk_un (by omega)]; exact h4, fun i hi => by rw [pk_un (by omega)]; exact h5 i hi, by rw [pk_un (by omega)]; exact h6, fun j hj => ?_⟩
  · show upd f (107 * r + k) v (107 * r + i) = upd (dP D) k v i
    by_cases e : i = k
    · rw [e, pk_us, pk_us]
    · rw [pk_un (by omega), pk_un e]; exact h1 i hi
  · obtain ⟨g1, g2, g3, g4⟩ := h7 j hj
    exact ⟨by rw [pk_un (by omega)]; exact g1, by rw [pk_un (by omega)]; exact g2, by rw [pk_un (by omega)]; exact g3, fun i hi => by rw [pk_un (by omega)]; exact g4 i hi⟩
theorem isRow.mth {f g : Nat → Int32} {r j len : Nat} {nm fl : Int32} {c : Nat → Int32} {D : Dfn} (h : isRow f r D) (hl : len ≤ 6) (g1 : g (107 * r + (23 + 21 * j)) = nm) (g2 : g (107 * r + (23 + 21 * j + 1)) = fl) (g3 : g (107 * r + (23 + 21 * j + 2)) = nI len) (g4 : ∀ k, k < 3 * len → g (107 * r + (23 + 21 * j + 3 + k)) = c k) (hq : ∀ x, (x < 107 * r + (23 + 21 * j) ∨ 107 * r + (23 + 21 * j) + 21 ≤ x) → g x = f x) : isRow g r (dSetM D j nm fl len c) := by
  obtain ⟨⟨o1, o2, o3, o4⟩, h1, h2, h3, h4, h5, h6, h7⟩ := h
  refine ⟨⟨o1, o2, o3, fun i hi => ?_⟩, fun i hi => by rw [hq _ (by omega)]; exact h1 i hi, by rw [hq _ (by omega)]; exact h2, fun i hi => by have hi' : i < dNi D := hi; rw [hq _ (by omega)]; exact h3 i hi, by rw [hq _ (by omega)]; exact h4, fun i hi => by have hi' : i < 3 * dNf D := hi; rw [hq _ (by omega)]; exact h5 i hi, by rw [hq _ (by omega)]; exact h6, fun i hi => ?_⟩
  · show va_up (dL D) j len i ≤ 6
    by_cases e : i = j
    · rw [e, va_up_self]; exact hl
    · rw [va_up_ne _ _ e]; exact o4 i hi
  · show _ = upd (dN D) j nm i ∧ _ = upd (dG D) j fl i ∧ _ = nI (va_up (dL D) j len i) ∧ ∀ k, k < 3 * (va_up (dL D) j len i) → _ = va_up (dC D) j c i k
    by_cases e : i = j
    · subst e
      rw [pk_us, pk_us, va_up_self, va_up_self]
      exact ⟨g1, g2, g3, g4⟩
    · rw [pk_un e, pk_un e, va_up_ne _ _ e, va_up_ne _ _ e]
      obtain ⟨k1, k2, k3, k4⟩ := h7 i hi
      have := o4 i hi
      exact ⟨by rw [hq _ (by omega)]; exact k1, by rw [hq _ (by omega)]; exact k2, by rw [hq _ (by omega)]; exact k3, fun k hk => by rw [hq _ (by omega)]; exact k4 k hk⟩
theorem dEmp_nm (D : Dfn) (i : Nat) : dNm (dEmpU D i) = dNm D := rfl
set_option maxHeartbeats 1000000 in
theorem c_chg0 {Γ : pmE} {G : pmG} {n : Nat} {Q : pmPost} {m : Nat} {ch ba : Int32} {f : Nat → Int32} {kd : Nat → Nat} {vl : Nat → Int32} {r k : Nat} {D : Dfn} {nmd : Prop} {xn : Int32} {w6 w7 : Option Value} (hxn : xn = pB nmd) (hH : G m = some (.inr (kMo, moFs m ch ba))) (hF : G (m + 1) = some (.inl (0, 4387, .inl f))) (hKd : G (m + 7) = some (.inl (0, 5, .inl (fun j => nI (kd j))))) (hVl : G (m + 8) = some (.inl (0, 5, .inl vl))) (hr : r < 41) (hk5 : k < 5) (hk4 : kd k ≤ 4) (hR : isRow f r D) (hK1 : kd k ≠ 1) (hK3 : ¬ (kd k = 3 ∧ nmd)) (hQ : Q none n G) : pV Γ m_Mo_change 82 [some (.ref m), some (.int (nI r)), some (.int (nI k)), some (.int (nI (dNm D))), some (.int xn), some (.int (nI 0)), w6, w7] [] n G 0 0 Q := by
  subst hxn
  obtain ⟨⟨o1, o2, o3, o4⟩, hr1, hr2, hr3, hr4, hr5, hr7, hr8⟩ := hR
  have loop : ∀ (d i : Nat), i ≤ dNm D → dNm D - i < d → ∀ w6 w7 : Option Value, pV Γ m_Mo_change 82 [some (.ref m), some (.int (nI r)), some (.int (nI k)), some (.int (nI (dNm D))), some (.int (pB nmd)), some (.int (nI i)), w6, w7] [] n G 0 0 Q := by
    intro d
    induction d with
    | zero => intro i _ hd; exact absurd hd (by omega)
    | succ d ih =>
      intro i hi hd w6 w7
      have ho4 : i < dNm D → dL D i ≤ 6 := o4 i
      refine V_iload d_Mo_change_82 rfl ?_
      refine V_iload_n d_Mo_change_84 rfl ?_
      refine V_icmp_geN (tgt := 209) d_Mo_change_85 (by decide) (by omega) (by omega) (fun hb85 => ?_) (fun hb85 => ?_)
      · exact V_return d_Mo_change_209 rfl (hQ)
      · refine V_iload d_Mo_change_88 rfl ?_
        refine V_callS (As := [.int (nI i)]) (rest := []) (lo' := [some (.int (nI i))]) (bc1 := 0) (bs1 := 0) (bc' := 0) (bs' := 0) d_Mo_change_90 k_Mo_change_85 rfl rfl rfl rfl (by rfl) (by rfl) ?_
        refine c_Mo_methodAt ?_
        show pV Γ m_Mo_change 93 [some (.ref m), some (.int (nI r)), some (.int (nI k)), some (.int (nI (dNm D))), some (.int (pB nmd)), some (.int (nI i)), w6, w7] [.int (nI (23 + 21 * i))] _ G 0 0 Q
        refine V_iconst (v := nI 2) d_Mo_change_93 (by decide +kernel) ?_
        refine V_iaddN d_Mo_change_94 ?_
        refine V_istore d_Mo_change_95 (Nat.le_of_ble_eq_true rfl) ?_
        show pV Γ _ _ [some (.ref m), some (.int (nI r)), some (.int (nI k)), some (.int (nI (dNm D))), some (.int (pB nmd)), some (.int (nI i)), some (.int (nI (23 + 21 * i + 2))), w7] _ _ _ _ _ _
        refine V_aload_n d_Mo_change_97 rfl ?_
        refine V_getf d_Mo_change_98 f_Mo_33 hH rfl ?_
        refine V_iload_n d_Mo_change_101 rfl ?_
        refine V_iaload (j := k) d_Mo_change_102 rfl hKd rfl (by omega) (by omega) ?_
        show pV Γ _ _ _ (.int (nI (kd k)) :: _) _ _ _ _ _
        refine V_iconst (v := nI 3) d_Mo_change_103 (by decide +kernel) ?_
        refine V_icmp_neN (tgt := 120) d_Mo_change_104 (by decide) (by omega) (by omega) (fun hb104 => ?_) (fun hb104 => ?_)
        · refine V_iconst (v := nI 0) d_Mo_change_120 (by decide +kernel) ?_
          refine V_istore d_Mo_change_121 (Nat.le_of_ble_eq_true rfl) ?_
          show pV Γ _ _ [some (.ref m), some (.int (nI r)), some (.int (nI k)), some (.int (nI (dNm D))), some (.int (pB nmd)), some (.int (nI i)), some (.int (nI (23 + 21 * i + 2))), some (.int (nI 0))] _ _ _ _ _ _
          refine V_iload d_Mo_change_123 rfl ?_
          refine V_aload_n d_Mo_change_125 rfl ?_
          refine V_iload_n d_Mo_change_126 rfl ?_
          refine V_iload d_Mo_change_127 rfl ?_
          refine V_callV (As := [.int (nI r), .int (nI (23 + 21 * i + 2))]) (rest := [.int (nI 0)]) (lo' := [some (.ref m), some (.int (nI r)), some (.int (nI (23 + 21 * i + 2)))]) (bc1 := 0) (bs1 := 0) (bc' := 0) (bs' := 0) d_Mo_change_129 k_Mo_change_69 hH rfl rfl rfl rfl (by rfl) (by rfl) ?_
          refine c_Mo_get hH hF (by omega) ?_
          rw [(hr8 i (by omega)).2.2.1]
          show pV Γ m_Mo_change 132 [some (.ref m), some (.int (nI r)), some (.int (nI k)), some (.int (nI (dNm D))), some (.int (pB nmd)), some (.int (nI i)), some (.int (nI (23 + 21 * i + 2))), some (.int (nI 0))] [.int (nI (dL D i)), .int (nI 0)] _ G 0 0 Q
          refine V_icmp_geN (tgt := 203) d_Mo_change_132 (by decide) (by omega) (by omega) (fun hb132 => ?_) (fun hb132 => ?_)
          · refine V_iincN d_Mo_change_203 rfl ?_
            show pV Γ _ _ [some (.ref m), some (.int (nI r)), some (.int (nI k)), some (.int (nI (dNm D))), some (.int (pB nmd)), some (.int (nI (i + 1))), some (.int (nI (23 + 21 * i + 2))), some (.int (nI 0))] _ _ _ _ _ _
            refine V_goto (tgt := 82) d_Mo_change_206 (by decide) ?_
            exact ih (i + 1) (by omega) (by omega) _ _
          · refine V_aload_n d_Mo_change_135 rfl ?_
            refine V_getf d_Mo_change_136 f_Mo_33 hH rfl ?_
            refine V_iload_n d_Mo_change_139 rfl ?_
            refine V_iaload (j := k) d_Mo_change_140 rfl hKd rfl (by omega) (by omega) ?_
            show pV Γ _ _ _ (.int (nI (kd k)) :: _) _ _ _ _ _
            refine V_iconst (v := nI 1) d_Mo_change_141 (by decide +kernel) ?_
            refine V_icmp_neN (tgt := 203) d_Mo_change_142 (by decide) (by omega) (by omega) (fun hb142 => ?_) (fun hb142 => ?_)
            · refine V_iincN d_Mo_change_203 rfl ?_
              show pV Γ _ _ [some (.ref m), some (.int (nI r)), some (.int (nI k)), some (.int (nI (dNm D))), some (.int (pB nmd)), some (.int (nI (i + 1))), some (.int (nI (23 + 21 * i + 2))), some (.int (nI 0))] _ _ _ _ _ _
              refine V_goto (tgt := 82) d_Mo_change_206 (by decide) ?_
              exact ih (i + 1) (by omega) (by omega) _ _
            · exact absurd hb142 hK1
        · refine V_iload d_Mo_change_107 rfl ?_
          refine V_if_eqB (tgt := 120) d_Mo_change_109 (by decide) (fun hb109 => ?_) (fun hb109 => ?_)
          · refine V_iconst (v := nI 0) d_Mo_change_120 (by decide +kernel) ?_
            refine V_istore d_Mo_change_121 (Nat.le_of_ble_eq_true rfl) ?_
            show pV Γ _ _ [some (.ref m), some (.int (nI r)), some (.int (nI k)), some (.int (nI (dNm D))), some (.int (pB nmd)), some (.int (nI i)), some (.int (nI (23 + 21 * i + 2))), some (.int (nI 0))] _ _ _ _ _ _
            refine V_iload d_Mo_change_123 rfl ?_
            refine V_aload_n d_Mo_change_125 rfl ?_
            refine V_iload_n d_Mo_change_126 rfl ?_
            refine V_iload d_Mo_change_127 rfl ?_
            refine V_callV (As := [.int (nI r), .int (nI (23 + 21 * i + 2))]) (rest := [.int (nI 0)]) (lo' := [some (.ref m), some (.int (nI r)), some (.int (nI (23 + 21 * i + 2)))]) (bc1 := 0) (bs1 := 0) (bc' := 0) (bs' := 0) d_Mo_change_129 k_Mo_change_69 hH rfl rfl rfl rfl (by rfl) (by rfl) ?_
            refine c_Mo_get hH hF (by omega) ?_
            rw [(hr8 i (by omega)).2.2.1]
            show pV Γ m_Mo_change 132 [some (.ref m), some (.int (nI r)), some (.int (nI k)), some (.int (nI (dNm D))), some (.int (pB nmd)), some (.int (nI i)), some (.int (nI (23 + 21 * i + 2))), some (.int (nI 0))] [.int (nI (dL D i)), .int (nI 0)] _ G 0 0 Q
            refine V_icmp_geN (tgt := 203) d_Mo_change_132 (by decide) (by omega) (by omega) (fun hb132 => ?_) (fun hb132 => ?_)
            · refine V_iincN d_Mo_change_203 rfl ?_
              show pV Γ _ _ [some (.ref m), some (.int (nI r)), some (.int (nI k)), some (.int (nI (dNm D))), some (.int (pB nmd)), some (.int (nI (i + 1))), some (.int (nI (23 + 21 * i + 2))), some (.int (nI 0))] _ _ _ _ _ _
              refine V_goto (tgt := 82) d_Mo_change_206 (by decide) ?_
              exact ih (i + 1) (by omega) (by omega) _ _
            · refine V_aload_n d_Mo_change_135 rfl ?_
              refine V_getf d_Mo_change_136 f_Mo_33 hH rfl ?_
              refine V_iload_n d_Mo_change_139 rfl ?_
              refine V_iaload (j := k) d_Mo_change_140 rfl hKd rfl (by omega) (by omega) ?_
              show pV Γ _ _ _ (.int (nI (kd k)) :: _) _ _ _ _ _
              refine V_iconst (v := nI 1) d_Mo_change_141 (by decide +kernel) ?_
              refine V_icmp_neN (tgt := 203) d_Mo_change_142 (by decide) (by omega) (by omega) (fun hb142 => ?_) (fun hb142 => ?_)
              · refine V_iincN d_Mo_change_203 rfl ?_
                show pV Γ _ _ [some (.ref m), some (.int (nI r)), some (.int (nI k)), some (.int (nI (dNm D))), some (.int (pB nmd)), some (.int (nI (i + 1))), some (.int (nI (23 + 21 * i + 2))), some (.int (nI 0))] _ _ _ _ _ _
                refine V_goto (tgt := 82) d_Mo_change_206 (by decide) ?_
                exact ih (i + 1) (by omega) (by omega) _ _
              · exact absurd hb142 hK1
          · exact absurd ⟨hb104, hb109⟩ hK3
  exact loop (dNm D + 1) 0 (by omega) (by omega) _ _
set_option maxHeartbeats 1000000 in
theorem c_chg3 {Γ : pmE} {G : pmG} {n : Nat} {Q : pmPost} {m : Nat} {ch ba : Int32} {f : Nat → Int32} {kd : Nat → Nat} {vl : Nat → Int32} {r k : Nat} {D : Dfn} {nmd : Prop} {xn : Int32} {w6 w7 : Option Value} (hxn : xn = pB nmd) (hH : G m = some (.inr (kMo, moFs m ch ba))) (hF : G (m + 1) = some (.inl (0, 4387, .inl f))) (hKd : G (m + 7) = some (.inl (0, 5, .inl (fun j => nI (kd j))))) (hVl : G (m + 8) = some (.inl (0, 5, .inl vl))) (hr : r < 41) (hk5 : k < 5) (hk4 : kd k ≤ 4) (hR : isRow f r D) (hK3 : kd k = 3) (hN : nmd) (hQ : ∀ G' g, G' (m + 1) = some (.inl (0, 4387, .inl g)) → isRow g r (dEmpU D (dNm D)) → (∀ x, (x < 107 * r ∨ 107 * r + 107 ≤ x) → g x = f x) → (∀ q, q ≠ m + 1 → G' q = G q) → Q none n G') : pV Γ m_Mo_change 82 [some (.ref m), some (.int (nI r)), some (.int (nI k)), some (.int (nI (dNm D))), some (.int xn), some (.int (nI 0)), w6, w7] [] n G 0 0 Q := by
  subst hxn
  have hnm4 : dNm D ≤ 4 := hR.1.2.2.1
  have loop : ∀ (d i : Nat), i ≤ dNm D → dNm D - i < d → ∀ (w6 w7 : Option Value) (G1 : pmG) (g : Nat → Int32), G1 m = some (.inr (kMo, moFs m ch ba)) → G1 (m + 1) = some (.inl (0, 4387, .inl g)) → G1 (m + 7) = some (.inl (0, 5, .inl (fun j => nI (kd j)))) → G1 (m + 8) = some (.inl (0, 5, .inl vl)) → isRow g r (dEmpU D i) → (∀ x, (x < 107 * r ∨ 107 * r + 107 ≤ x) → g x = f x) → (∀ q, q ≠ m + 1 → G1 q = G q) → pV Γ m_Mo_change 82 [some (.ref m), some (.int (nI r)), some (.int (nI k)), some (.int (nI (dNm D))), some (.int (pB nmd)), some (.int (nI i)), w6, w7] [] n G1 0 0 Q := by
    intro d
    induction d with
    | zero => intro i _ hd; exact absurd hd (by omega)
    | succ d ih =>
      intro i hi hd w6 w7 G1 g hH hF hKd hVl hR0 hx0 ho
      obtain ⟨⟨o1, o2, o3, o4⟩, hr1, hr2, hr3, hr4, hr5, hr7, hr8⟩ := hR0.kept (fun x _ _ => rfl)
      have o3 : dNm D ≤ 4 := o3
      refine V_iload d_Mo_change_82 rfl ?_
      refine V_iload_n d_Mo_change_84 rfl ?_
      refine V_icmp_geN (tgt := 209) d_Mo_change_85 (by decide) (by omega) (by omega) (fun hb85 => ?_) (fun hb85 => ?_)
      · exact V_return d_Mo_change_209 rfl (hQ G1 g hF (by rw [show i = dNm D by omega] at hR0; exact hR0) hx0 ho)
      · refine V_iload d_Mo_change_88 rfl ?_
        refine V_callS (As := [.int (nI i)]) (rest := []) (lo' := [some (.int (nI i))]) (bc1 := 0) (bs1 := 0) (bc' := 0) (bs' := 0) d_Mo_change_90 k_Mo_change_85 rfl rfl rfl rfl (by rfl) (by rfl) ?_
        refine c_Mo_methodAt ?_
        show pV Γ m_Mo_change 93 [some (.ref m), some (.int (nI r)), some (.int (nI k)), some (.int (nI (dNm D))), some (.int (pB nmd)), some (.int (nI i)), w6, w7] [.int (nI (23 + 21 * i))] _ G1 0 0 Q
        refine V_iconst (v := nI 2) d_Mo_change_93 (by decide +kernel) ?_
        refine V_iaddN d_Mo_change_94 ?_
        refine V_istore d_Mo_change_95 (Nat.le_of_ble_eq_true rfl) ?_
        show pV Γ _ _ [some (.ref m), some (.int (nI r)), some (.int (nI k)), some (.int (nI (dNm D))), some (.int (pB nmd)), some (.int (nI i)), some (.int (nI (23 + 21 * i + 2))), w7] _ _ _ _ _ _
        refine V_aload_n d_Mo_change_97 rfl ?_
        refine V_getf d_Mo_change_98 f_Mo_33 hH rfl ?_
        refine V_iload_n d_Mo_change_101 rfl ?_
        refine V_iaload (j := k) d_Mo_change_102 rfl hKd rfl (by omega) (by omega) ?_
        show pV Γ _ _ _ (.int (nI (kd k)) :: _) _ _ _ _ _
        refine V_iconst (v := nI 3) d_Mo_change_103 (by decide +kernel) ?_
        refine V_icmp_neN (tgt := 120) d_Mo_change_104 (by decide) (by omega) (by omega) (fun hb104 => ?_) (fun hb104 => ?_)
        · first | exact absurd hK3 hb104 | exact absurd hN hb109
        · refine V_iload d_Mo_change_107 rfl ?_
          refine V_if_eqB (tgt := 120) d_Mo_change_109 (by decide) (fun hb109 => ?_) (fun hb109 => ?_)
          · first | exact absurd hK3 hb104 | exact absurd hN hb109
          · refine V_aload_n d_Mo_change_112 rfl ?_
            refine V_iload_n d_Mo_change_113 rfl ?_
            refine V_iload d_Mo_change_114 rfl ?_
            refine V_iconst (v := nI 0) d_Mo_change_116 (by decide +kernel) ?_
            refine V_callV (As := [.int (nI r), .int (nI (23 + 21 * i + 2)), .int (nI 0)]) (rest := []) (lo' := [some (.ref m), some (.int (nI r)), some (.int (nI (23 + 21 * i + 2))), some (.int (nI 0))]) (bc1 := 0) (bs1 := 0) (bc' := 0) (bs' := 0) d_Mo_change_117 k_Mo_change_73 hH rfl rfl rfl rfl (by rfl) (by rfl) ?_
            refine c_Mo_put hH hF (by omega) (fun G2 hF2 ho2 => ?_)
            have hF := hF2
            have hH := (ho2 _ (by omega)).trans hH
            have hKd := (ho2 _ (by omega)).trans hKd
            have hVl := (ho2 _ (by omega)).trans hVl
            show pV Γ m_Mo_change 120 [some (.ref m), some (.int (nI r)), some (.int (nI k)), some (.int (nI (dNm D))), some (.int (pB nmd)), some (.int (nI i)), some (.int (nI (23 + 21 * i + 2))), w7] [] _ G2 0 0 Q
            refine V_iconst (v := nI 0) d_Mo_change_120 (by decide +kernel) ?_
            refine V_istore d_Mo_change_121 (Nat.le_of_ble_eq_true rfl) ?_
            show pV Γ _ _ [some (.ref m), some (.int (nI r)), some (.int (nI k)), some (.int (nI (dNm D))), some (.int (pB nmd)), some (.int (nI i)), some (.int (nI (23 + 21 * i + 2))), some (.int (nI 0))] _ _ _ _ _ _
            refine V_iload d_Mo_change_123 rfl ?_
            refine V_aload_n d_Mo_change_125 rfl ?_
            refine V_iload_n d_Mo_change_126 rfl ?_
            refine V_iload d_Mo_change_127 rfl ?_
            refine V_callV (As := [.int (nI r), .int (nI (23 + 21 * i + 2))]) (rest := [.int (nI 0)]) (lo' := [some (.ref m), some (.int (nI r)), some (.int (nI (23 + 21 * i + 2)))]) (bc1 := 0) (bs1 := 0) (bc' := 0) (bs' := 0) d_Mo_change_129 k_Mo_change_69 hH rfl rfl rfl rfl (by rfl) (by rfl) ?_
            refine c_Mo_get hH hF (by omega) ?_
            rw [show 107 * r + (23 + 21 * i + 2) = 107 * r + (23 + 21 * i + 2) from rfl, pk_us]
            show pV Γ m_Mo_change 132 [some (.ref m), some (.int (nI r)), some (.int (nI k)), some (.int (nI (dNm D))), some (.int (pB nmd)), some (.int (nI i)), some (.int (nI (23 + 21 * i + 2))), some (.int (nI 0))] [.int (nI 0), .int (nI 0)] _ G2 0 0 Q
            refine V_icmp_geN (tgt := 203) d_Mo_change_132 (by decide) (by omega) (by omega) (fun _ => ?_) (fun h => absurd h (by omega))
            refine V_iincN d_Mo_change_203 rfl ?_
            show pV Γ _ _ [some (.ref m), some (.int (nI r)), some (.int (nI k)), some (.int (nI (dNm D))), some (.int (pB nmd)), some (.int (nI (i + 1))), some (.int (nI (23 + 21 * i + 2))), some (.int (nI 0))] _ _ _ _ _ _
            refine V_goto (tgt := 82) d_Mo_change_206 (by decide) ?_
            refine ih (i + 1) (by omega) (by omega) _ _ G2 _ hH hF hKd hVl ?_ (fun x hx => ?_) (fun q hq => by rw [ho2 q (by omega), ho q hq])
            · rw [← dEmpU_s]
              obtain ⟨q1, q2, q3, q4⟩ := hr8 i (by show i < dNm D; omega)
              exact hR0.mth (by omega) (by rw [pk_un (by omega)]; exact q1) (by rw [pk_un (by omega)]; exact q2) (by rw [pk_us]) (fun k hk => absurd hk (by omega)) (fun x hx => by rw [pk_un (by omega)])
            · rw [pk_un (by omega)]; exact hx0 x hx
  exact loop (dNm D + 1) 0 (by omega) (by omega) _ _ G f hH hF hKd hVl (by rw [dEmpU_0]; exact hR) (fun x _ => rfl) (fun q _ => rfl)
set_option maxHeartbeats 1000000 in
theorem c_chg1i {Γ : pmE} {G : pmG} {n : Nat} {Q : pmPost} {m : Nat} {ch ba : Int32} {f : Nat → Int32} {kd : Nat → Nat} {vl : Nat → Int32} {r k j len : Nat} {v : Int32} {dm : Nat} {c : Nat → Int32} {nmd : Prop} (hH : G m = some (.inr (kMo, moFs m ch ba))) (hF : G (m + 1) = some (.inl (0, 4387, .inl f))) (hKd : G (m + 7) = some (.inl (0, 5, .inl (fun j => nI (kd j))))) (hVl : G (m + 8) = some (.inl (0, 5, .inl vl))) (hr : r < 41) (hk5 : k < 5) (hK1 : kd k = 1) (hv : vl k = v) (hj : j < 4) (hl6 : len ≤ 6) (gl : f (107 * r + (23 + 21 * j + 2)) = nI len) (gc : ∀ x, x < 3 * len → f (107 * r + (23 + 21 * j + 3 + x)) = c x) (hE : ∀ G' g, G' m = some (.inr (kMo, moFs m ch ba)) → G' (m + 1) = some (.inl (0, 4387, .inl g)) → G' (m + 7) = some (.inl (0, 5, .inl (fun j => nI (kd j)))) → G' (m + 8) = some (.inl (0, 5, .inl vl)) → g (107 * r + (23 + 21 * j + 2)) = nI len → (∀ x, x < 3 * len → g (107 * r + (23 + 21 * j + 3 + x)) = cd_rs v c len x) → (∀ x, (x < 107 * r + (23 + 21 * j + 3) ∨ 107 * r + (23 + 21 * j + 3) + 18 ≤ x) → g x = f x) → (∀ q, q ≠ m + 1 → G' q = G q) → pV Γ m_Mo_change 203 [some (.ref m), some (.int (nI r)), some (.int (nI k)), some (.int (nI dm)), some (.int (pB nmd)), some (.int (nI j)), some (.int (nI (23 + 21 * j + 2))), some (.int (nI len))] [] n G' 0 0 Q) : pV Γ m_Mo_change 123 [some (.ref m), some (.int (nI r)), some (.int (nI k)), some (.int (nI dm)), some (.int (pB nmd)), some (.int (nI j)), some (.int (nI (23 + 21 * j + 2))), some (.int (nI 0))] [] n G 0 0 Q := by
  have loop : ∀ (d i : Nat), i ≤ len → len - i < d → ∀ (G1 : pmG) (g : Nat → Int32), G1 m = some (.inr (kMo, moFs m ch ba)) → G1 (m + 1) = some (.inl (0, 4387, .inl g)) → G1 (m + 7) = some (.inl (0, 5, .inl (fun j => nI (kd j)))) → G1 (m + 8) = some (.inl (0, 5, .inl vl)) → g (107 * r + (23 + 21 * j + 2)) = nI len → (∀ x, x < 3 * len → g (107 * r + (23 + 21 * j + 3 + x)) = cd_rs v c i x) → (∀ x, (x < 107 * r + (23 + 21 * j + 3) ∨ 107 * r + (23 + 21 * j + 3) + 18 ≤ x) → g x = f x) → (∀ q, q ≠ m + 1 → G1 q = G q) → pV Γ m_Mo_change 123 [some (.ref m), some (.int (nI r)), some (.int (nI k)), some (.int (nI dm)), some (.int (pB nmd)), some (.int (nI j)), some (.int (nI (23 + 21 * j + 2))), some (.int (nI i))] [] n G1 0 0 Q := by
    intro d
    induction d with
    | zero => intro i _ hd; exact absurd hd (by omega)
    | succ d ih =>
      intro i hi hd G1 g hH hF hKd hVl gl gc gx ho
      refine V_iload d_Mo_change_123 rfl ?_
      refine V_aload_n d_Mo_change_125 rfl ?_
      refine V_iload_n d_Mo_change_126 rfl ?_
      refine V_iload d_Mo_change_127 rfl ?_
      refine V_callV (As := [.int (nI r), .int (nI (23 + 21 * j + 2))]) (rest := [.int (nI i)]) (lo' := [some (.ref m), some (.int (nI r)), some (.int (nI (23 + 21 * j + 2)))]) (bc1 := 0) (bs1 := 0) (bc' := 0) (bs' := 0) d_Mo_change_129 k_Mo_change_69 hH rfl rfl rfl rfl (by rfl) (by rfl) ?_
      refine c_Mo_get hH hF (by omega) ?_
      rw [gl]
      show pV Γ m_Mo_change 132 [some (.ref m), some (.int (nI r)), some (.int (nI k)), some (.int (nI dm)), some (.int (pB nmd)), some (.int (nI j)), some (.int (nI (23 + 21 * j + 2))), some (.int (nI i))] [.int (nI len), .int (nI i)] _ G1 0 0 Q
      refine V_icmp_geN (tgt := 203) d_Mo_change_132 (by decide) (by omega) (by omega) (fun hb132 => ?_) (fun hb132 => ?_)
      · first
          | exact absurd hK1 hb142
          | (rw [show i = len by omega]; exact hE G1 g hH hF hKd hVl gl (fun x hx => by rw [gc x hx, show i = len by omega]) gx ho)
      · refine V_aload_n d_Mo_change_135 rfl ?_
        refine V_getf d_Mo_change_136 f_Mo_33 hH rfl ?_
        refine V_iload_n d_Mo_change_139 rfl ?_
        refine V_iaload (j := k) d_Mo_change_140 rfl hKd rfl (by omega) (by omega) ?_
        show pV Γ _ _ _ (.int (nI (kd k)) :: _) _ _ _ _ _
        refine V_iconst (v := nI 1) d_Mo_change_141 (by decide +kernel) ?_
        refine V_icmp_neN (tgt := 203) d_Mo_change_142 (by decide) (by omega) (by omega) (fun hb142 => ?_) (fun hb142 => ?_)
        · first
            | exact absurd hK1 hb142
            | (rw [show i = len by omega]; exact hE G1 g hH hF hKd hVl gl (fun x hx => by rw [gc x hx, show i = len by omega]) gx ho)
        · refine V_aload_n d_Mo_change_145 rfl ?_
          refine V_iload_n d_Mo_change_146 rfl ?_
          refine V_iload d_Mo_change_147 rfl ?_
          refine V_iconst (v := nI 1) d_Mo_change_149 (by decide +kernel) ?_
          refine V_iaddN d_Mo_change_150 ?_
          refine V_iconst (v := nI 3) d_Mo_change_151 (by decide +kernel) ?_
          refine V_iload d_Mo_change_152 rfl ?_
          refine V_imulN d_Mo_change_154 ?_
          refine V_iaddN d_Mo_change_155 ?_
          refine V_callV (As := [.int (nI r), .int (nI (23 + 21 * j + 2 + 1 + (3 * i)))]) (rest := []) (lo' := [some (.ref m), some (.int (nI r)), some (.int (nI (23 + 21 * j + 2 + 1 + (3 * i))))]) (bc1 := 0) (bs1 := 0) (bc' := 0) (bs' := 0) d_Mo_change_156 k_Mo_change_69 hH rfl rfl rfl rfl (by rfl) (by rfl) ?_
          refine c_Mo_get hH hF (by omega) ?_
          rw [show 107 * r + (23 + 21 * j + 2 + 1 + 3 * i) = 107 * r + (23 + 21 * j + 3 + i * 3) by omega, gc (i * 3) (by omega), cd_rs_out v c (by omega : 3 * i ≤ i * 3)]
          show pV Γ m_Mo_change 159 [some (.ref m), some (.int (nI r)), some (.int (nI k)), some (.int (nI dm)), some (.int (pB nmd)), some (.int (nI j)), some (.int (nI (23 + 21 * j + 2))), some (.int (nI i))] [.int ((c (i * 3)))] _ G1 0 0 Q
          refine V_if_ne (tgt := 197) d_Mo_change_159 (by decide) (fun hb159 => ?_) (fun hb159 => ?_)
          · refine V_iincN d_Mo_change_197 rfl ?_
            show pV Γ _ _ [some (.ref m), some (.int (nI r)), some (.int (nI k)), some (.int (nI dm)), some (.int (pB nmd)), some (.int (nI j)), some (.int (nI (23 + 21 * j + 2))), some (.int (nI (i + 1)))] _ _ _ _ _ _
            refine V_goto (tgt := 123) d_Mo_change_200 (by decide) ?_
            exact ih (i + 1) (by omega) (by omega) G1 g hH hF hKd hVl gl (fun x hx => by rw [gc x hx]; exact cd_rs_f v c hb159 x) gx ho
          · refine V_aload_n d_Mo_change_162 rfl ?_
            refine V_iload_n d_Mo_change_163 rfl ?_
            refine V_iload d_Mo_change_164 rfl ?_
            refine V_iconst (v := nI 2) d_Mo_change_166 (by decide +kernel) ?_
            refine V_iaddN d_Mo_change_167 ?_
            refine V_iconst (v := nI 3) d_Mo_change_168 (by decide +kernel) ?_
            refine V_iload d_Mo_change_169 rfl ?_
            refine V_imulN d_Mo_change_171 ?_
            refine V_iaddN d_Mo_change_172 ?_
            refine V_aload_n d_Mo_change_173 rfl ?_
            refine V_iload_n d_Mo_change_174 rfl ?_
            refine V_iload d_Mo_change_175 rfl ?_
            refine V_iconst (v := nI 2) d_Mo_change_177 (by decide +kernel) ?_
            refine V_iaddN d_Mo_change_178 ?_
            refine V_iconst (v := nI 3) d_Mo_change_179 (by decide +kernel) ?_
            refine V_iload d_Mo_change_180 rfl ?_
            refine V_imulN d_Mo_change_182 ?_
            refine V_iaddN d_Mo_change_183 ?_
            refine V_callV (As := [.int (nI r), .int (nI (23 + 21 * j + 2 + 2 + (3 * i)))]) (rest := [.int (nI (23 + 21 * j + 2 + 2 + (3 * i))), .int (nI r), .ref m]) (lo' := [some (.ref m), some (.int (nI r)), some (.int (nI (23 + 21 * j + 2 + 2 + (3 * i))))]) (bc1 := 0) (bs1 := 0) (bc' := 0) (bs' := 0) d_Mo_change_184 k_Mo_change_69 hH rfl rfl rfl rfl (by rfl) (by rfl) ?_
            refine c_Mo_get hH hF (by omega) ?_
            rw [show 107 * r + (23 + 21 * j + 2 + 2 + 3 * i) = 107 * r + (23 + 21 * j + 3 + (i * 3 + 1)) by omega, gc (i * 3 + 1) (by omega), cd_rs_out v c (by omega : 3 * i ≤ i * 3 + 1)]
            show pV Γ m_Mo_change 187 [some (.ref m), some (.int (nI r)), some (.int (nI k)), some (.int (nI dm)), some (.int (pB nmd)), some (.int (nI j)), some (.int (nI (23 + 21 * j + 2))), some (.int (nI i))] [.int ((c (i * 3 + 1))), .int (nI (23 + 21 * j + 2 + 2 + (3 * i))), .int (nI r), .ref m] _ G1 0 0 Q
            refine V_aload_n d_Mo_change_187 rfl ?_
            refine V_getf d_Mo_change_188 f_Mo_36 hH rfl ?_
            refine V_iload_n d_Mo_change_191 rfl ?_
            refine V_iaload (j := k) d_Mo_change_192 rfl hVl rfl hk5 (by omega) ?_
            rw [hv]
            refine V_iadd d_Mo_change_193 ?_
            refine V_callV (As := [.int (nI r), .int (nI (23 + 21 * j + 2 + 2 + (3 * i))), .int ((c (i * 3 + 1)) + v)]) (rest := []) (lo' := [some (.ref m), some (.int (nI r)), some (.int (nI (23 + 21 * j + 2 + 2 + (3 * i)))), some (.int ((c (i * 3 + 1)) + v))]) (bc1 := 0) (bs1 := 0) (bc' := 0) (bs' := 0) d_Mo_change_194 k_Mo_change_73 hH rfl rfl rfl rfl (by rfl) (by rfl) ?_
            refine c_Mo_put hH hF (by omega) (fun G2 hF2 ho2 => ?_)
            have hF := hF2
            have hH := (ho2 _ (by omega)).trans hH
            have hKd := (ho2 _ (by omega)).trans hKd
            have hVl := (ho2 _ (by omega)).trans hVl
            show pV Γ m_Mo_change 197 [some (.ref m), some (.int (nI r)), some (.int (nI k)), some (.int (nI dm)), some (.int (pB nmd)), some (.int (nI j)), some (.int (nI (23 + 21 * j + 2))), some (.int (nI i))] [] _ G2 0 0 Q
            refine V_iincN d_Mo_change_197 rfl ?_
            show pV Γ _ _ [some (.ref m), some (.int (nI r)), some (.int (nI k)), some (.int (nI dm)), some (.int (pB nmd)), some (.int (nI j)), some (.int (nI (23 + 21 * j + 2))), some (.int (nI (i + 1)))] _ _ _ _ _ _
            refine V_goto (tgt := 123) d_Mo_change_200 (by decide) ?_
            refine ih (i + 1) (by omega) (by omega) G2 _ hH hF hKd hVl (by rw [pk_un (by omega)]; exact gl) (fun x hx => ?_) (fun x hx => by rw [pk_un (by omega)]; exact gx x hx) (fun q hq => by rw [ho2 q (by omega), ho q hq])
            rw [← cd_rs_t v c hb159 x]
            by_cases e : x = i * 3 + 1
            · rw [e, pk_us, show 107 * r + (23 + 21 * j + 2 + 2 + 3 * i) = 107 * r + (23 + 21 * j + 3 + (i * 3 + 1)) by omega, pk_us]
            · rw [pk_un e, pk_un (by omega)]; exact gc x hx
  exact loop (len + 1) 0 (by omega) (by omega) G f hH hF hKd hVl gl (fun x hx => by rw [cd_rs_0]; exact gc x hx) (fun x _ => rfl) (fun q _ => rfl)
set_option maxHeartbeats 1000000 in
theorem c_chg1 {Γ : pmE} {G : pmG} {n : Nat} {Q : pmPost} {m : Nat} {ch ba : Int32} {f : Nat → Int32} {kd : Nat → Nat} {vl : Nat → Int32} {r k : Nat} {D : Dfn} {nmd : Prop} {xn : Int32} {v : Int32} {w6 w7 : Option Value} (hxn : xn = pB nmd) (hH : G m = some (.inr (kMo, moFs m ch ba))) (hF : G (m + 1) = some (.inl (0, 4387, .inl f))) (hKd : G (m + 7) = some (.inl (0, 5, .inl (fun j => nI (kd j))))) (hVl : G (m + 8) = some (.inl (0, 5, .inl vl))) (hr : r < 41) (hk5 : k < 5) (hR : isRow f r D) (hK1 : kd k = 1) (hv : vl k = v) (hQ : ∀ G' g, G' (m + 1) = some (.inl (0, 4387, .inl g)) → isRow g r (dRsU v D (dNm D)) → (∀ x, (x < 107 * r ∨ 107 * r + 107 ≤ x) → g x = f x) → (∀ q, q ≠ m + 1 → G' q = G q) → Q none n G') : pV Γ m_Mo_change 82 [some (.ref m), some (.int (nI r)), some (.int (nI k)), some (.int (nI (dNm D))), some (.int xn), some (.int (nI 0)), w6, w7] [] n G 0 0 Q := by
  subst hxn
  have hnm4 : dNm D ≤ 4 := hR.1.2.2.1
  have loop : ∀ (d i : Nat), i ≤ dNm D → dNm D - i < d → ∀ (w6 w7 : Option Value) (G1 : pmG) (g : Nat → Int32), G1 m = some (.inr (kMo, moFs m ch ba)) → G1 (m + 1) = some (.inl (0, 4387, .inl g)) → G1 (m + 7) = some (.inl (0, 5, .inl (fun j => nI (kd j)))) → G1 (m + 8) = some (.inl (0, 5, .inl vl)) → isRow g r (dRsU v D i) → (∀ x, (x < 107 * r ∨ 107 * r + 107 ≤ x) → g x = f x) → (∀ q, q ≠ m + 1 → G1 q = G q) → pV Γ m_Mo_change 82 [some (.ref m), some (.int (nI r)), some (.int (nI k)), some (.int (nI (dNm D))), some (.int (pB nmd)), some (.int (nI i)), w6, w7] [] n G1 0 0 Q := by
    intro d
    induction d with
    | zero => intro i _ hd; exact absurd hd (by omega)
    | succ d ih =>
      intro i hi hd w6 w7 G1 g hH hF hKd hVl hR0 hx0 ho
      obtain ⟨⟨o1, o2, o3, o4⟩, hr1, hr2, hr3, hr4, hr5, hr7, hr8⟩ := hR0.kept (fun x _ _ => rfl)
      have o3 : dNm D ≤ 4 := o3
      refine V_iload d_Mo_change_82 rfl ?_
      refine V_iload_n d_Mo_change_84 rfl ?_
      refine V_icmp_geN (tgt := 209) d_Mo_change_85 (by decide) (by omega) (by omega) (fun hb85 => ?_) (fun hb85 => ?_)
      · exact V_return d_Mo_change_209 rfl (hQ G1 g hF (by rw [show i = dNm D by omega] at hR0; exact hR0) hx0 ho)
      · refine V_iload d_Mo_change_88 rfl ?_
        refine V_callS (As := [.int (nI i)]) (rest := []) (lo' := [some (.int (nI i))]) (bc1 := 0) (bs1 := 0) (bc' := 0) (bs' := 0) d_Mo_change_90 k_Mo_change_85 rfl rfl rfl rfl (by rfl) (by rfl) ?_
        refine c_Mo_methodAt ?_
        show pV Γ m_Mo_change 93 [some (.ref m), some (.int (nI r)), some (.int (nI k)), some (.int (nI (dNm D))), some (.int (pB nmd)), some (.int (nI i)), w6, w7] [.int (nI (23 + 21 * i))] _ G1 0 0 Q
        refine V_iconst (v := nI 2) d_Mo_change_93 (by decide +kernel) ?_
        refine V_iaddN d_Mo_change_94 ?_
        refine V_istore d_Mo_change_95 (Nat.le_of_ble_eq_true rfl) ?_
        show pV Γ _ _ [some (.ref m), some (.int (nI r)), some (.int (nI k)), some (.int (nI (dNm D))), some (.int (pB nmd)), some (.int (nI i)), some (.int (nI (23 + 21 * i + 2))), w7] _ _ _ _ _ _
        refine V_aload_n d_Mo_change_97 rfl ?_
        refine V_getf d_Mo_change_98 f_Mo_33 hH rfl ?_
        refine V_iload_n d_Mo_change_101 rfl ?_
        refine V_iaload (j := k) d_Mo_change_102 rfl hKd rfl (by omega) (by omega) ?_
        show pV Γ _ _ _ (.int (nI (kd k)) :: _) _ _ _ _ _
        refine V_iconst (v := nI 3) d_Mo_change_103 (by decide +kernel) ?_
        refine V_icmp_neN (tgt := 120) d_Mo_change_104 (by decide) (by omega) (by omega) (fun hb104 => ?_) (fun hb104 => ?_)
        · refine V_iconst (v := nI 0) d_Mo_change_120 (by decide +kernel) ?_
          refine V_istore d_Mo_change_121 (Nat.le_of_ble_eq_true rfl) ?_
          show pV Γ _ _ [some (.ref m), some (.int (nI r)), some (.int (nI k)), some (.int (nI (dNm D))), some (.int (pB nmd)), some (.int (nI i)), some (.int (nI (23 + 21 * i + 2))), some (.int (nI 0))] _ _ _ _ _ _
          obtain ⟨q1, q2, q3, q4⟩ := hr8 i (by show i < dNm D; omega)
          have hl6 : dL D i ≤ 6 := o4 i (by show i < dNm D; omega)
          have e9 : dC (dRsU v D i) i = dC D i := if_neg (by omega)
          rw [e9] at q4
          refine c_chg1i (c := dC D i) (len := dL D i) (v := v) hH hF hKd hVl hr hk5 hK1 hv (by omega) hl6 q3 q4 (fun G2 g2 hH hF2 hKd hVl gl gc gx ho2 => ?_)
          show pV Γ m_Mo_change 203 [some (.ref m), some (.int (nI r)), some (.int (nI k)), some (.int (nI (dNm D))), some (.int (pB nmd)), some (.int (nI i)), some (.int (nI (23 + 21 * i + 2))), some (.int (nI (dL D i)))] [] _ G2 0 0 Q
          refine V_iincN d_Mo_change_203 rfl ?_
          show pV Γ _ _ [some (.ref m), some (.int (nI r)), some (.int (nI k)), some (.int (nI (dNm D))), some (.int (pB nmd)), some (.int (nI (i + 1))), some (.int (nI (23 + 21 * i + 2))), some (.int (nI (dL D i)))] _ _ _ _ _ _
          refine V_goto (tgt := 82) d_Mo_change_206 (by decide) ?_
          refine ih (i + 1) (by omega) (by omega) _ _ G2 g2 hH hF2 hKd hVl ?_ (fun x hx => by rw [gx x (by omega)]; exact hx0 x hx) (fun q hq => by rw [ho2 q hq, ho q hq])
          rw [← dRsU_s]
          exact hR0.mth hl6 (by rw [gx _ (by omega)]; exact q1) (by rw [gx _ (by omega)]; exact q2) gl gc (fun x hx => gx x (by omega))
        · exact absurd (hK1.symm.trans hb104) (by omega)
  exact loop (dNm D + 1) 0 (by omega) (by omega) _ _ G f hH hF hKd hVl (by rw [dRsU_0]; exact hR) (fun x _ => rfl) (fun q _ => rfl)
