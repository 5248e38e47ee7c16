/-! The reference: change whole, changes, treat. -/
theorem nI_ne1 {k : Nat} (hk : k < 2 ^ 31) : ¬ nI k = (-1 : Int32) := fun e => absurd (congrArg Int32.toInt e) (by rw [nI_toInt hk]; show (k : Int) ≠ -1; omega)
set_option maxHeartbeats 1000000 in
theorem c_Mo_change0 {Γ : pmE} {G : pmG} {n : Nat} {Q : pmPost} {m : Nat} {ch ba : Int32} {f : Nat → Int32} {kd : Nat → Nat} {vl : Nat → Int32} {r k : Nat} {D : Dfn} (hH : G m = some (.inr (kMo, moFs m ch ba))) (hF : G (m + 1) = some (.inl (0, 4387, .inl f))) (hKd : G (m + 7) = some (.inl (0, 5, .inl (fun j => nI (kd j))))) (hVl : G (m + 8) = some (.inl (0, 5, .inl vl))) (hr : r < 41) (hk5 : k < 5) (hR : isRow f r D) (hK : kd k = 0) (hQ : ∀ G' g, G' (m + 1) = some (.inl (0, 4387, .inl g)) → isRow g r (dChg (kd k) (vl k) D) → (∀ x, (x < 107 * r ∨ 107 * r + 107 ≤ x) → g x = f x) → (∀ q, q ≠ m + 1 → G' q = G q) → Q none n G') : pV Γ m_Mo_change 0 [some (.ref m), some (.int (nI r)), some (.int (nI k)), none, none, none, none, none] [] n G 0 0 Q := by
  have hnm4 : dNm D ≤ 4 := hR.1.2.2.1
  refine V_aload_n d_Mo_change_0 rfl ?_
  refine V_iload_n d_Mo_change_1 rfl ?_
  refine V_bipush (v := nI 22) d_Mo_change_2 (by decide +kernel) ?_
  refine V_callV (As := [.int (nI r), .int (nI 22)]) (rest := []) (lo' := [some (.ref m), some (.int (nI r)), some (.int (nI 22))]) (bc1 := 0) (bs1 := 0) (bc' := 0) (bs' := 0) d_Mo_change_4 k_Mo_change_69 hH rfl rfl rfl rfl (by rfl) (by rfl) ?_
  refine c_Mo_get hH hF (by omega) ?_
  rw [hR.2.2.2.2.2.2.1]
  show pV Γ m_Mo_change 7 [some (.ref m), some (.int (nI r)), some (.int (nI k)), none, none, none, none, none] [.int (nI (dNm D))] _ G 0 0 Q
  refine V_istore_n d_Mo_change_7 (Nat.le_of_ble_eq_true rfl) ?_
  show pV Γ _ _ [some (.ref m), some (.int (nI r)), some (.int (nI k)), some (.int (nI (dNm D))), none, none, none, none] _ _ _ _ _ _
  refine V_aload_n d_Mo_change_8 rfl ?_
  refine V_getf d_Mo_change_9 f_Mo_33 hH rfl ?_
  refine V_iload_n d_Mo_change_12 rfl ?_
  refine V_iaload (j := k) d_Mo_change_13 rfl hKd rfl (by omega) (by omega) ?_
  rw [hK]
  refine V_iconst (v := nI 2) d_Mo_change_14 (by decide +kernel) ?_
  refine V_icmp_neN (tgt := 30) d_Mo_change_15 (by decide) (by omega) (by omega) (fun _ => ?_) (fun h => absurd h (by omega))
  refine V_aload_n d_Mo_change_30 rfl ?_
  refine V_getf d_Mo_change_31 f_Mo_33 hH rfl ?_
  refine V_iload_n d_Mo_change_34 rfl ?_
  refine V_iaload (j := k) d_Mo_change_35 rfl hKd rfl (by omega) (by omega) ?_
  rw [hK]
  refine V_iconst (v := nI 4) d_Mo_change_36 (by decide +kernel) ?_
  refine V_icmp_neN (tgt := 57) d_Mo_change_37 (by decide) (by omega) (by omega) (fun _ => ?_) (fun h => absurd h (by omega))
  refine V_aload_n d_Mo_change_57 rfl ?_
  refine V_iload_n d_Mo_change_58 rfl ?_
  refine V_aload_n d_Mo_change_59 rfl ?_
  refine V_getf d_Mo_change_60 f_Mo_36 hH rfl ?_
  refine V_iload_n d_Mo_change_63 rfl ?_
  refine V_iaload (j := k) d_Mo_change_64 rfl hVl rfl (by omega) (by omega) ?_
  show pV Γ _ _ _ (.int ((vl k)) :: _) _ _ _ _ _
  refine V_callV (As := [.int (nI r), .int ((vl k))]) (rest := []) (lo' := [some (.ref m), some (.int (nI r)), some (.int ((vl k))), none]) (bc1 := 0) (bs1 := 0) (bc' := 0) (bs' := 0) d_Mo_change_65 k_Mo_change_89 hH rfl rfl rfl rfl (by rfl) (by rfl) ?_
  refine c_Mo_find hH hF hr hR (fun hn => ?_) (fun j hj => ?_)
  · show pV Γ m_Mo_change 68 [some (.ref m), some (.int (nI r)), some (.int (nI k)), some (.int (nI (dNm D))), none, none, none, none] [.int ((-1))] _ G 0 0 Q
    refine V_iconst (v := (-1)) d_Mo_change_68 (by decide +kernel) ?_
    refine V_icmp_eq (tgt := 76) d_Mo_change_69 (by decide) (fun _ => ?_) (fun e => absurd rfl e)
    refine V_iconst (v := nI 0) d_Mo_change_76 (by decide +kernel) ?_
    refine V_istore d_Mo_change_77 (Nat.le_of_ble_eq_true rfl) ?_
    show pV Γ _ _ [some (.ref m), some (.int (nI r)), some (.int (nI k)), some (.int (nI (dNm D))), some (.int (nI 0)), none, none, none] _ _ _ _ _ _
    refine V_iconst (v := nI 0) d_Mo_change_79 (by decide +kernel) ?_
    refine V_istore d_Mo_change_80 (Nat.le_of_ble_eq_true rfl) ?_
    show pV Γ _ _ [some (.ref m), some (.int (nI r)), some (.int (nI k)), some (.int (nI (dNm D))), some (.int (nI 0)), some (.int (nI 0)), none, none] _ _ _ _ _ _
    exact c_chg0 (nmd := False) (pB_f (fun e => e)).symm hH hF hKd hVl hr hk5 (by omega) hR (by omega) (fun e => absurd e.1 (by omega)) (hQ G f hF (by rw [hK]; exact hR) (fun x hx => rfl) (fun q hq => rfl))
  · show pV Γ m_Mo_change 68 [some (.ref m), some (.int (nI r)), some (.int (nI k)), some (.int (nI (dNm D))), none, none, none, none] [.int (nI (23 + 21 * j))] _ G 0 0 Q
    refine V_iconst (v := (-1)) d_Mo_change_68 (by decide +kernel) ?_
    have hj4 : j < 4 := Nat.lt_of_lt_of_le hj.1 hR.1.2.2.1
    refine V_icmp_eq (tgt := 76) d_Mo_change_69 (by decide) (fun e => absurd e (nI_ne1 (by omega))) (fun _ => ?_)
    refine V_iconst (v := nI 1) d_Mo_change_72 (by decide +kernel) ?_
    refine V_goto (tgt := 77) d_Mo_change_73 (by decide) ?_
    refine V_istore d_Mo_change_77 (Nat.le_of_ble_eq_true rfl) ?_
    show pV Γ _ _ [some (.ref m), some (.int (nI r)), some (.int (nI k)), some (.int (nI (dNm D))), some (.int (nI 1)), none, none, none] _ _ _ _ _ _
    refine V_iconst (v := nI 0) d_Mo_change_79 (by decide +kernel) ?_
    refine V_istore d_Mo_change_80 (Nat.le_of_ble_eq_true rfl) ?_
    show pV Γ _ _ [some (.ref m), some (.int (nI r)), some (.int (nI k)), some (.int (nI (dNm D))), some (.int (nI 1)), some (.int (nI 0)), none, none] _ _ _ _ _ _
    exact c_chg0 (nmd := True) (pB_t trivial).symm hH hF hKd hVl hr hk5 (by omega) hR (by omega) (fun e => absurd e.1 (by omega)) (hQ G f hF (by rw [hK]; exact hR) (fun x hx => rfl) (fun q hq => rfl))
set_option maxHeartbeats 1000000 in
theorem c_Mo_change1 {Γ : pmE} {G : pmG} {n : Nat} {Q : pmPost} {m : Nat} {ch ba : Int32} {f : Nat → Int32} {kd : Nat → Nat} {vl : Nat → Int32} {r k : Nat} {D : Dfn} (hH : G m = some (.inr (kMo, moFs m ch ba))) (hF : G (m + 1) = some (.inl (0, 4387, .inl f))) (hKd : G (m + 7) = some (.inl (0, 5, .inl (fun j => nI (kd j))))) (hVl : G (m + 8) = some (.inl (0, 5, .inl vl))) (hr : r < 41) (hk5 : k < 5) (hR : isRow f r D) (hK : kd k = 1) (hQ : ∀ G' g, G' (m + 1) = some (.inl (0, 4387, .inl g)) → isRow g r (dChg (kd k) (vl k) D) → (∀ x, (x < 107 * r ∨ 107 * r + 107 ≤ x) → g x = f x) → (∀ q, q ≠ m + 1 → G' q = G q) → Q none n G') : pV Γ m_Mo_change 0 [some (.ref m), some (.int (nI r)), some (.int (nI k)), none, none, none, none, none] [] n G 0 0 Q := by
  have hnm4 : dNm D ≤ 4 := hR.1.2.2.1
  refine V_aload_n d_Mo_change_0 rfl ?_
  refine V_iload_n d_Mo_change_1 rfl ?_
  refine V_bipush (v := nI 22) d_Mo_change_2 (by decide +kernel) ?_
  refine V_callV (As := [.int (nI r), .int (nI 22)]) (rest := []) (lo' := [some (.ref m), some (.int (nI r)), some (.int (nI 22))]) (bc1 := 0) (bs1 := 0) (bc' := 0) (bs' := 0) d_Mo_change_4 k_Mo_change_69 hH rfl rfl rfl rfl (by rfl) (by rfl) ?_
  refine c_Mo_get hH hF (by omega) ?_
  rw [hR.2.2.2.2.2.2.1]
  show pV Γ m_Mo_change 7 [some (.ref m), some (.int (nI r)), some (.int (nI k)), none, none, none, none, none] [.int (nI (dNm D))] _ G 0 0 Q
  refine V_istore_n d_Mo_change_7 (Nat.le_of_ble_eq_true rfl) ?_
  show pV Γ _ _ [some (.ref m), some (.int (nI r)), some (.int (nI k)), some (.int (nI (dNm D))), none, none, none, none] _ _ _ _ _ _
  refine V_aload_n d_Mo_change_8 rfl ?_
  refine V_getf d_Mo_change_9 f_Mo_33 hH rfl ?_
  refine V_iload_n d_Mo_change_12 rfl ?_
  refine V_iaload (j := k) d_Mo_change_13 rfl hKd rfl (by omega) (by omega) ?_
  rw [hK]
  refine V_iconst (v := nI 2) d_Mo_change_14 (by decide +kernel) ?_
  refine V_icmp_neN (tgt := 30) d_Mo_change_15 (by decide) (by omega) (by omega) (fun _ => ?_) (fun h => absurd h (by omega))
  refine V_aload_n d_Mo_change_30 rfl ?_
  refine V_getf d_Mo_change_31 f_Mo_33 hH rfl ?_
  refine V_iload_n d_Mo_change_34 rfl ?_
  refine V_iaload (j := k) d_Mo_change_35 rfl hKd rfl (by omega) (by omega) ?_
  rw [hK]
  refine V_iconst (v := nI 4) d_Mo_change_36 (by decide +kernel) ?_
  refine V_icmp_neN (tgt := 57) d_Mo_change_37 (by decide) (by omega) (by omega) (fun _ => ?_) (fun h => absurd h (by omega))
  refine V_aload_n d_Mo_change_57 rfl ?_
  refine V_iload_n d_Mo_change_58 rfl ?_
  refine V_aload_n d_Mo_change_59 rfl ?_
  refine V_getf d_Mo_change_60 f_Mo_36 hH rfl ?_
  refine V_iload_n d_Mo_change_63 rfl ?_
  refine V_iaload (j := k) d_Mo_change_64 rfl hVl rfl (by omega) (by omega) ?_
  show pV Γ _ _ _ (.int ((vl k)) :: _) _ _ _ _ _
  refine V_callV (As := [.int (nI r), .int ((vl k))]) (rest := []) (lo' := [some (.ref m), some (.int (nI r)), some (.int ((vl k))), none]) (bc1 := 0) (bs1 := 0) (bc' := 0) (bs' := 0) d_Mo_change_65 k_Mo_change_89 hH rfl rfl rfl rfl (by rfl) (by rfl) ?_
  refine c_Mo_find hH hF hr hR (fun hn => ?_) (fun j hj => ?_)
  · show pV Γ m_Mo_change 68 [some (.ref m), some (.int (nI r)), some (.int (nI k)), some (.int (nI (dNm D))), none, none, none, none] [.int ((-1))] _ G 0 0 Q
    refine V_iconst (v := (-1)) d_Mo_change_68 (by decide +kernel) ?_
    refine V_icmp_eq (tgt := 76) d_Mo_change_69 (by decide) (fun _ => ?_) (fun e => absurd rfl e)
    refine V_iconst (v := nI 0) d_Mo_change_76 (by decide +kernel) ?_
    refine V_istore d_Mo_change_77 (Nat.le_of_ble_eq_true rfl) ?_
    show pV Γ _ _ [some (.ref m), some (.int (nI r)), some (.int (nI k)), some (.int (nI (dNm D))), some (.int (nI 0)), none, none, none] _ _ _ _ _ _
    refine V_iconst (v := nI 0) d_Mo_change_79 (by decide +kernel) ?_
    refine V_istore d_Mo_change_80 (Nat.le_of_ble_eq_true rfl) ?_
    show pV Γ _ _ [some (.ref m), some (.int (nI r)), some (.int (nI k)), some (.int (nI (dNm D))), some (.int (nI 0)), some (.int (nI 0)), none, none] _ _ _ _ _ _
    exact c_chg1 (nmd := False) (pB_f (fun e => e)).symm hH hF hKd hVl hr hk5 hR hK rfl (fun G2 g2 hF2 hR2 hx2 ho2 => hQ G2 g2 hF2 (by rw [hK]; exact hR2) hx2 ho2)
  · show pV Γ m_Mo_change 68 [some (.ref m), some (.int (nI r)), some (.int (nI k)), some (.int (nI (dNm D))), none, none, none, none] [.int (nI (23 + 21 * j))] _ G 0 0 Q
    refine V_iconst (v := (-1)) d_Mo_change_68 (by decide +kernel) ?_
    have hj4 : j < 4 := Nat.lt_of_lt_of_le hj.1 hR.1.2.2.1
    refine V_icmp_eq (tgt := 76) d_Mo_change_69 (by decide) (fun e => absurd e (nI_ne1 (by omega))) (fun _ => ?_)
    refine V_iconst (v := nI 1) d_Mo_change_72 (by decide +kernel) ?_
    refine V_goto (tgt := 77) d_Mo_change_73 (by decide) ?_
    refine V_istore d_Mo_change_77 (Nat.le_of_ble_eq_true rfl) ?_
    show pV Γ _ _ [some (.ref m), some (.int (nI r)), some (.int (nI k)), some (.int (nI (dNm D))), some (.int (nI 1)), none, none, none] _ _ _ _ _ _
    refine V_iconst (v := nI 0) d_Mo_change_79 (by decide +kernel) ?_
    refine V_istore d_Mo_change_80 (Nat.le_of_ble_eq_true rfl) ?_
    show pV Γ _ _ [some (.ref m), some (.int (nI r)), some (.int (nI k)), some (.int (nI (dNm D))), some (.int (nI 1)), some (.int (nI 0)), none, none] _ _ _ _ _ _
    exact c_chg1 (nmd := True) (pB_t trivial).symm hH hF hKd hVl hr hk5 hR hK rfl (fun G2 g2 hF2 hR2 hx2 ho2 => hQ G2 g2 hF2 (by rw [hK]; exact hR2) hx2 ho2)
set_option maxHeartbeats 1000000 in
theorem c_Mo_change2 {Γ : pmE} {G : pmG} {n : Nat} {Q : pmPost} {m : Nat} {ch ba : Int32} {f : Nat → Int32} {kd : Nat → Nat} {vl : Nat → Int32} {r k : Nat} {D : Dfn} (hH : G m = some (.inr (kMo, moFs m ch ba))) (hF : G (m + 1) = some (.inl (0, 4387, .inl f))) (hKd : G (m + 7) = some (.inl (0, 5, .inl (fun j => nI (kd j))))) (hVl : G (m + 8) = some (.inl (0, 5, .inl vl))) (hr : r < 41) (hk5 : k < 5) (hR : isRow f r D) (hK : kd k = 2) (hQ : ∀ G' g, G' (m + 1) = some (.inl (0, 4387, .inl g)) → isRow g r (dChg (kd k) (vl k) D) → (∀ x, (x < 107 * r ∨ 107 * r + 107 ≤ x) → g x = f x) → (∀ q, q ≠ m + 1 → G' q = G q) → Q none n G') : pV Γ m_Mo_change 0 [some (.ref m), some (.int (nI r)), some (.int (nI k)), none, none, none, none, none] [] n G 0 0 Q := by
  have hnm4 : dNm D ≤ 4 := hR.1.2.2.1
  refine V_aload_n d_Mo_change_0 rfl ?_
  refine V_iload_n d_Mo_change_1 rfl ?_
  refine V_bipush (v := nI 22) d_Mo_change_2 (by decide +kernel) ?_
  refine V_callV (As := [.int (nI r), .int (nI 22)]) (rest := []) (lo' := [some (.ref m), some (.int (nI r)), some (.int (nI 22))]) (bc1 := 0) (bs1 := 0) (bc' := 0) (bs' := 0) d_Mo_change_4 k_Mo_change_69 hH rfl rfl rfl rfl (by rfl) (by rfl) ?_
  refine c_Mo_get hH hF (by omega) ?_
  rw [hR.2.2.2.2.2.2.1]
  show pV Γ m_Mo_change 7 [some (.ref m), some (.int (nI r)), some (.int (nI k)), none, none, none, none, none] [.int (nI (dNm D))] _ G 0 0 Q
  refine V_istore_n d_Mo_change_7 (Nat.le_of_ble_eq_true rfl) ?_
  show pV Γ _ _ [some (.ref m), some (.int (nI r)), some (.int (nI k)), some (.int (nI (dNm D))), none, none, none, none] _ _ _ _ _ _
  refine V_aload_n d_Mo_change_8 rfl ?_
  refine V_getf d_Mo_change_9 f_Mo_33 hH rfl ?_
  refine V_iload_n d_Mo_change_12 rfl ?_
  refine V_iaload (j := k) d_Mo_change_13 rfl hKd rfl (by omega) (by omega) ?_
  rw [hK]
  refine V_iconst (v := nI 2) d_Mo_change_14 (by decide +kernel) ?_
  refine V_icmp_neN (tgt := 30) d_Mo_change_15 (by decide) (by omega) (by omega) (fun h => absurd h (by omega)) (fun _ => ?_)
  refine V_aload_n d_Mo_change_18 rfl ?_
  refine V_iload_n d_Mo_change_19 rfl ?_
  refine V_iconst (v := nI 3) d_Mo_change_20 (by decide +kernel) ?_
  refine V_aload_n d_Mo_change_21 rfl ?_
  refine V_getf d_Mo_change_22 f_Mo_36 hH rfl ?_
  refine V_iload_n d_Mo_change_25 rfl ?_
  refine V_iaload (j := k) d_Mo_change_26 rfl hVl rfl (by omega) (by omega) ?_
  show pV Γ _ _ _ (.int ((vl k)) :: _) _ _ _ _ _
  refine V_callV (As := [.int (nI r), .int (nI 3), .int ((vl k))]) (rest := []) (lo' := [some (.ref m), some (.int (nI r)), some (.int (nI 3)), some (.int ((vl k)))]) (bc1 := 0) (bs1 := 0) (bc' := 0) (bs' := 0) d_Mo_change_27 k_Mo_change_73 hH rfl rfl rfl rfl (by rfl) (by rfl) ?_
  refine c_Mo_put hH hF (by omega) (fun G1 hF1 ho1 => ?_)
  have hF := hF1
  have hH := (ho1 _ (by omega)).trans hH
  have hKd := (ho1 _ (by omega)).trans hKd
  have hVl := (ho1 _ (by omega)).trans hVl
  have hR := hR.part (k := 3) (v := vl k) (by omega)
  show pV Γ m_Mo_change 30 [some (.ref m), some (.int (nI r)), some (.int (nI k)), some (.int (nI (dNm D))), none, none, none, none] [] _ G1 0 0 Q
  refine V_aload_n d_Mo_change_30 rfl ?_
  refine V_getf d_Mo_change_31 f_Mo_33 hH rfl ?_
  refine V_iload_n d_Mo_change_34 rfl ?_
  refine V_iaload (j := k) d_Mo_change_35 rfl hKd rfl (by omega) (by omega) ?_
  rw [hK]
  refine V_iconst (v := nI 4) d_Mo_change_36 (by decide +kernel) ?_
  refine V_icmp_neN (tgt := 57) d_Mo_change_37 (by decide) (by omega) (by omega) (fun _ => ?_) (fun h => absurd h (by omega))
  refine V_aload_n d_Mo_change_57 rfl ?_
  refine V_iload_n d_Mo_change_58 rfl ?_
  refine V_aload_n d_Mo_change_59 rfl ?_
  refine V_getf d_Mo_change_60 f_Mo_36 hH rfl ?_
  refine V_iload_n d_Mo_change_63 rfl ?_
  refine V_iaload (j := k) d_Mo_change_64 rfl hVl rfl (by omega) (by omega) ?_
  show pV Γ _ _ _ (.int ((vl k)) :: _) _ _ _ _ _
  refine V_callV (As := [.int (nI r), .int ((vl k))]) (rest := []) (lo' := [some (.ref m), some (.int (nI r)), some (.int ((vl k))), none]) (bc1 := 0) (bs1 := 0) (bc' := 0) (bs' := 0) d_Mo_change_65 k_Mo_change_89 hH rfl rfl rfl rfl (by rfl) (by rfl) ?_
  refine c_Mo_find hH hF hr hR (fun hn => ?_) (fun j hj => ?_)
  · show pV Γ m_Mo_change 68 [some (.ref m), some (.int (nI r)), some (.int (nI k)), some (.int (nI (dNm D))), none, none, none, none] [.int ((-1))] _ G1 0 0 Q
    refine V_iconst (v := (-1)) d_Mo_change_68 (by decide +kernel) ?_
    refine V_icmp_eq (tgt := 76) d_Mo_change_69 (by decide) (fun _ => ?_) (fun e => absurd rfl e)
    refine V_iconst (v := nI 0) d_Mo_change_76 (by decide +kernel) ?_
    refine V_istore d_Mo_change_77 (Nat.le_of_ble_eq_true rfl) ?_
    show pV Γ _ _ [some (.ref m), some (.int (nI r)), some (.int (nI k)), some (.int (nI (dNm D))), some (.int (nI 0)), none, none, none] _ _ _ _ _ _
    refine V_iconst (v := nI 0) d_Mo_change_79 (by decide +kernel) ?_
    refine V_istore d_Mo_change_80 (Nat.le_of_ble_eq_true rfl) ?_
    show pV Γ _ _ [some (.ref m), some (.int (nI r)), some (.int (nI k)), some (.int (nI (dNm D))), some (.int (nI 0)), some (.int (nI 0)), none, none] _ _ _ _ _ _
    exact c_chg0 (D := (dSetP D (upd (dP D) 3 (vl k)))) (nmd := False) (pB_f (fun e => e)).symm hH hF hKd hVl hr hk5 (by omega) hR (by omega) (fun e => absurd e.1 (by omega)) (hQ G1 _ hF (by rw [hK]; exact hR) (fun x hx => pk_un (by omega)) (fun q hq => ho1 q hq))
  · show pV Γ m_Mo_change 68 [some (.ref m), some (.int (nI r)), some (.int (nI k)), some (.int (nI (dNm D))), none, none, none, none] [.int (nI (23 + 21 * j))] _ G1 0 0 Q
    refine V_iconst (v := (-1)) d_Mo_change_68 (by decide +kernel) ?_
    have hj4 : j < 4 := Nat.lt_of_lt_of_le hj.1 hR.1.2.2.1
    refine V_icmp_eq (tgt := 76) d_Mo_change_69 (by decide) (fun e => absurd e (nI_ne1 (by omega))) (fun _ => ?_)
    refine V_iconst (v := nI 1) d_Mo_change_72 (by decide +kernel) ?_
    refine V_goto (tgt := 77) d_Mo_change_73 (by decide) ?_
    refine V_istore d_Mo_change_77 (Nat.le_of_ble_eq_true rfl) ?_
    show pV Γ _ _ [some (.ref m), some (.int (nI r)), some (.int (nI k)), some (.int (nI (dNm D))), some (.int (nI 1)), none, none, none] _ _ _ _ _ _
    refine V_iconst (v := nI 0) d_Mo_change_79 (by decide +kernel) ?_
    refine V_istore d_Mo_change_80 (Nat.le_of_ble_eq_true rfl) ?_
    show pV Γ _ _ [some (.ref m), some (.int (nI r)), some (.int (nI k)), some (.int (nI (dNm D))), some (.int (nI 1)), some (.int (nI 0)), none, none] _ _ _ _ _ _
    exact c_chg0 (D := (dSetP D (upd (dP D) 3 (vl k)))) (nmd := True) (pB_t trivial).symm hH hF hKd hVl hr hk5 (by omega) hR (by omega) (fun e => absurd e.1 (by omega)) (hQ G1 _ hF (by rw [hK]; exact hR) (fun x hx => pk_un (by omega)) (fun q hq => ho1 q hq))
set_option maxHeartbeats 1000000 in
theorem c_Mo_change3 {Γ : pmE} {G : pmG} {n : Nat} {Q : pmPost} {m : Nat} {ch ba : Int32} {f : Nat → Int32} {kd : Nat → Nat} {vl : Nat → Int32} {r k : Nat} {D : Dfn} (hH : G m = some (.inr (kMo, moFs m ch ba))) (hF : G (m + 1) = some (.inl (0, 4387, .inl f))) (hKd : G (m + 7) = some (.inl (0, 5, .inl (fun j => nI (kd j))))) (hVl : G (m + 8) = some (.inl (0, 5, .inl vl))) (hr : r < 41) (hk5 : k < 5) (hR : isRow f r D) (hK : kd k = 3) (hQ : ∀ G' g, G' (m + 1) = some (.inl (0, 4387, .inl g)) → isRow g r (dChg (kd k) (vl k) D) → (∀ x, (x < 107 * r ∨ 107 * r + 107 ≤ x) → g x = f x) → (∀ q, q ≠ m + 1 → G' q = G q) → Q none n G') : pV Γ m_Mo_change 0 [some (.ref m), some (.int (nI r)), some (.int (nI k)), none, none, none, none, none] [] n G 0 0 Q := by
  have hnm4 : dNm D ≤ 4 := hR.1.2.2.1
  refine V_aload_n d_Mo_change_0 rfl ?_
  refine V_iload_n d_Mo_change_1 rfl ?_
  refine V_bipush (v := nI 22) d_Mo_change_2 (by decide +kernel) ?_
  refine V_callV (As := [.int (nI r), .int (nI 22)]) (rest := []) (lo' := [some (.ref m), some (.int (nI r)), some (.int (nI 22))]) (bc1 := 0) (bs1 := 0) (bc' := 0) (bs' := 0) d_Mo_change_4 k_Mo_change_69 hH rfl rfl rfl rfl (by rfl) (by rfl) ?_
  refine c_Mo_get hH hF (by omega) ?_
  rw [hR.2.2.2.2.2.2.1]
  show pV Γ m_Mo_change 7 [some (.ref m), some (.int (nI r)), some (.int (nI k)), none, none, none, none, none] [.int (nI (dNm D))] _ G 0 0 Q
  refine V_istore_n d_Mo_change_7 (Nat.le_of_ble_eq_true rfl) ?_
  show pV Γ _ _ [some (.ref m), some (.int (nI r)), some (.int (nI k)), some (.int (nI (dNm D))), none, none, none, none] _ _ _ _ _ _
  refine V_aload_n d_Mo_change_8 rfl ?_
  refine V_getf d_Mo_change_9 f_Mo_33 hH rfl ?_
  refine V_iload_n d_Mo_change_12 rfl ?_
  refine V_iaload (j := k) d_Mo_change_13 rfl hKd rfl (by omega) (by omega) ?_
  rw [hK]
  refine V_iconst (v := nI 2) d_Mo_change_14 (by decide +kernel) ?_
  refine V_icmp_neN (tgt := 30) d_Mo_change_15 (by decide) (by omega) (by omega) (fun _ => ?_) (fun h => absurd h (by omega))
  refine V_aload_n d_Mo_change_30 rfl ?_
  refine V_getf d_Mo_change_31 f_Mo_33 hH rfl ?_
  refine V_iload_n d_Mo_change_34 rfl ?_
  refine V_iaload (j := k) d_Mo_change_35 rfl hKd rfl (by omega) (by omega) ?_
  rw [hK]
  refine V_iconst (v := nI 4) d_Mo_change_36 (by decide +kernel) ?_
  refine V_icmp_neN (tgt := 57) d_Mo_change_37 (by decide) (by omega) (by omega) (fun _ => ?_) (fun h => absurd h (by omega))
  refine V_aload_n d_Mo_change_57 rfl ?_
  refine V_iload_n d_Mo_change_58 rfl ?_
  refine V_aload_n d_Mo_change_59 rfl ?_
  refine V_getf d_Mo_change_60 f_Mo_36 hH rfl ?_
  refine V_iload_n d_Mo_change_63 rfl ?_
  refine V_iaload (j := k) d_Mo_change_64 rfl hVl rfl (by omega) (by omega) ?_
  show pV Γ _ _ _ (.int ((vl k)) :: _) _ _ _ _ _
  refine V_callV (As := [.int (nI r), .int ((vl k))]) (rest := []) (lo' := [some (.ref m), some (.int (nI r)), some (.int ((vl k))), none]) (bc1 := 0) (bs1 := 0) (bc' := 0) (bs' := 0) d_Mo_change_65 k_Mo_change_89 hH rfl rfl rfl rfl (by rfl) (by rfl) ?_
  refine c_Mo_find hH hF hr hR (fun hn => ?_) (fun j hj => ?_)
  · show pV Γ m_Mo_change 68 [some (.ref m), some (.int (nI r)), some (.int (nI k)), some (.int (nI (dNm D))), none, none, none, none] [.int ((-1))] _ G 0 0 Q
    refine V_iconst (v := (-1)) d_Mo_change_68 (by decide +kernel) ?_
    refine V_icmp_eq (tgt := 76) d_Mo_change_69 (by decide) (fun _ => ?_) (fun e => absurd rfl e)
    refine V_iconst (v := nI 0) d_Mo_change_76 (by decide +kernel) ?_
    refine V_istore d_Mo_change_77 (Nat.le_of_ble_eq_true rfl) ?_
    show pV Γ _ _ [some (.ref m), some (.int (nI r)), some (.int (nI k)), some (.int (nI (dNm D))), some (.int (nI 0)), none, none, none] _ _ _ _ _ _
    refine V_iconst (v := nI 0) d_Mo_change_79 (by decide +kernel) ?_
    refine V_istore d_Mo_change_80 (Nat.le_of_ble_eq_true rfl) ?_
    show pV Γ _ _ [some (.ref m), some (.int (nI r)), some (.int (nI k)), some (.int (nI (dNm D))), some (.int (nI 0)), some (.int (nI 0)), none, none] _ _ _ _ _ _
    exact c_chg0 (nmd := False) (pB_f (fun e => e)).symm hH hF hKd hVl hr hk5 (by omega) hR (by omega) (fun e => e.2) (hQ G f hF (by rw [hK]; show isRow f r (pI (∃ j, j < dNm D ∧ dN D j = vl k) (dEmpU D (dNm D)) D); rw [pI_f (fun ⟨j, hj, e⟩ => hn j hj e)]; exact hR) (fun x hx => rfl) (fun q hq => rfl))
  · show pV Γ m_Mo_change 68 [some (.ref m), some (.int (nI r)), some (.int (nI k)), some (.int (nI (dNm D))), none, none, none, none] [.int (nI (23 + 21 * j))] _ G 0 0 Q
    refine V_iconst (v := (-1)) d_Mo_change_68 (by decide +kernel) ?_
    have hj4 : j < 4 := Nat.lt_of_lt_of_le hj.1 hR.1.2.2.1
    refine V_icmp_eq (tgt := 76) d_Mo_change_69 (by decide) (fun e => absurd e (nI_ne1 (by omega))) (fun _ => ?_)
    refine V_iconst (v := nI 1) d_Mo_change_72 (by decide +kernel) ?_
    refine V_goto (tgt := 77) d_Mo_change_73 (by decide) ?_
    refine V_istore d_Mo_change_77 (Nat.le_of_ble_eq_true rfl) ?_
    show pV Γ _ _ [some (.ref m), some (.int (nI r)), some (.int (nI k)), some (.int (nI (dNm D))), some (.int (nI 1)), none, none, none] _ _ _ _ _ _
    refine V_iconst (v := nI 0) d_Mo_change_79 (by decide +kernel) ?_
    refine V_istore d_Mo_change_80 (Nat.le_of_ble_eq_true rfl) ?_
    show pV Γ _ _ [some (.ref m), some (.int (nI r)), some (.int (nI k)), some (.int (nI (dNm D))), some (.int (nI 1)), some (.int (nI 0)), none, none] _ _ _ _ _ _
    exact c_chg3 (nmd := True) (pB_t trivial).symm hH hF hKd hVl hr hk5 (by omega) hR hK trivial (fun G2 g2 hF2 hR2 hx2 ho2 => hQ G2 g2 hF2 (by rw [hK]; show isRow g2 r (pI (∃ j, j < dNm D ∧ dN D j = vl k) (dEmpU D (dNm D)) D); rw [pI_t ⟨j, hj.1, hj.2.1⟩]; exact hR2) hx2 ho2)
set_option maxHeartbeats 1000000 in
theorem c_Mo_change4 {Γ : pmE} {G : pmG} {n : Nat} {Q : pmPost} {m : Nat} {ch ba : Int32} {f : Nat → Int32} {kd : Nat → Nat} {vl : Nat → Int32} {r k : Nat} {D : Dfn} (hH : G m = some (.inr (kMo, moFs m ch ba))) (hF : G (m + 1) = some (.inl (0, 4387, .inl f))) (hKd : G (m + 7) = some (.inl (0, 5, .inl (fun j => nI (kd j))))) (hVl : G (m + 8) = some (.inl (0, 5, .inl vl))) (hr : r < 41) (hk5 : k < 5) (hR : isRow f r D) (hK : kd k = 4) (hQ : ∀ G' g, G' (m + 1) = some (.inl (0, 4387, .inl g)) → isRow g r (dChg (kd k) (vl k) D) → (∀ x, (x < 107 * r ∨ 107 * r + 107 ≤ x) → g x = f x) → (∀ q, q ≠ m + 1 → G' q = G q) → Q none n G') : pV Γ m_Mo_change 0 [some (.ref m), some (.int (nI r)), some (.int (nI k)), none, none, none, none, none] [] n G 0 0 Q := by
  have hnm4 : dNm D ≤ 4 := hR.1.2.2.1
  refine V_aload_n d_Mo_change_0 rfl ?_
  refine V_iload_n d_Mo_change_1 rfl ?_
  refine V_bipush (v := nI 22) d_Mo_change_2 (by decide +kernel) ?_
  refine V_callV (As := [.int (nI r), .int (nI 22)]) (rest := []) (lo' := [some (.ref m), some (.int (nI r)), some (.int (nI 22))]) (bc1 := 0) (bs1 := 0) (bc' := 0) (bs' := 0) d_Mo_change_4 k_Mo_change_69 hH rfl rfl rfl rfl (by rfl) (by rfl) ?_
  refine c_Mo_get hH hF (by omega) ?_
  rw [hR.2.2.2.2.2.2.1]
  show pV Γ m_Mo_change 7 [some (.ref m), some (.int (nI r)), some (.int (nI k)), none, none, none, none, none] [.int (nI (dNm D))] _ G 0 0 Q
  refine V_istore_n d_Mo_change_7 (Nat.le_of_ble_eq_true rfl) ?_
  show pV Γ _ _ [some (.ref m), some (.int (nI r)), some (.int (nI k)), some (.int (nI (dNm D))), none, none, none, none] _ _ _ _ _ _
  refine V_aload_n d_Mo_change_8 rfl ?_
  refine V_getf d_Mo_change_9 f_Mo_33 hH rfl ?_
  refine V_iload_n d_Mo_change_12 rfl ?_
  refine V_iaload (j := k) d_Mo_change_13 rfl hKd rfl (by omega) (by omega) ?_
  rw [hK]
  refine V_iconst (v := nI 2) d_Mo_change_14 (by decide +kernel) ?_
  refine V_icmp_neN (tgt := 30) d_Mo_change_15 (by decide) (by omega) (by omega) (fun _ => ?_) (fun h => absurd h (by omega))
  refine V_aload_n d_Mo_change_30 rfl ?_
  refine V_getf d_Mo_change_31 f_Mo_33 hH rfl ?_
  refine V_iload_n d_Mo_change_34 rfl ?_
  refine V_iaload (j := k) d_Mo_change_35 rfl hKd rfl (by omega) (by omega) ?_
  rw [hK]
  refine V_iconst (v := nI 4) d_Mo_change_36 (by decide +kernel) ?_
  refine V_icmp_neN (tgt := 57) d_Mo_change_37 (by decide) (by omega) (by omega) (fun h => absurd h (by omega)) (fun _ => ?_)
  refine V_iload_n d_Mo_change_40 rfl ?_
  refine V_if_leN (tgt := 57) d_Mo_change_41 (by decide) (by omega) (fun hb41 => ?_) (fun hb41 => ?_)
  · refine V_aload_n d_Mo_change_57 rfl ?_
    refine V_iload_n d_Mo_change_58 rfl ?_
    refine V_aload_n d_Mo_change_59 rfl ?_
    refine V_getf d_Mo_change_60 f_Mo_36 hH rfl ?_
    refine V_iload_n d_Mo_change_63 rfl ?_
    refine V_iaload (j := k) d_Mo_change_64 rfl hVl rfl (by omega) (by omega) ?_
    show pV Γ _ _ _ (.int ((vl k)) :: _) _ _ _ _ _
    refine V_callV (As := [.int (nI r), .int ((vl k))]) (rest := []) (lo' := [some (.ref m), some (.int (nI r)), some (.int ((vl k))), none]) (bc1 := 0) (bs1 := 0) (bc' := 0) (bs' := 0) d_Mo_change_65 k_Mo_change_89 hH rfl rfl rfl rfl (by rfl) (by rfl) ?_
    refine c_Mo_find hH hF hr hR (fun hn => ?_) (fun j hj => ?_)
    · show pV Γ m_Mo_change 68 [some (.ref m), some (.int (nI r)), some (.int (nI k)), some (.int (nI (dNm D))), none, none, none, none] [.int ((-1))] _ G 0 0 Q
      refine V_iconst (v := (-1)) d_Mo_change_68 (by decide +kernel) ?_
      refine V_icmp_eq (tgt := 76) d_Mo_change_69 (by decide) (fun _ => ?_) (fun e => absurd rfl e)
      refine V_iconst (v := nI 0) d_Mo_change_76 (by decide +kernel) ?_
      refine V_istore d_Mo_change_77 (Nat.le_of_ble_eq_true rfl) ?_
      show pV Γ _ _ [some (.ref m), some (.int (nI r)), some (.int (nI k)), some (.int (nI (dNm D))), some (.int (nI 0)), none, none, none] _ _ _ _ _ _
      refine V_iconst (v := nI 0) d_Mo_change_79 (by decide +kernel) ?_
      refine V_istore d_Mo_change_80 (Nat.le_of_ble_eq_true rfl) ?_
      show pV Γ _ _ [some (.ref m), some (.int (nI r)), some (.int (nI k)), some (.int (nI (dNm D))), some (.int (nI 0)), some (.int (nI 0)), none, none] _ _ _ _ _ _
      exact c_chg0 (nmd := False) (pB_f (fun e => e)).symm hH hF hKd hVl hr hk5 (by omega) hR (by omega) (fun e => absurd e.1 (by omega)) (hQ G f hF (by rw [hK]; show isRow f r (if dNm D = 0 then D else _); rw [if_pos hb41]; exact hR) (fun x hx => rfl) (fun q hq => rfl))
    · show pV Γ m_Mo_change 68 [some (.ref m), some (.int (nI r)), some (.int (nI k)), some (.int (nI (dNm D))), none, none, none, none] [.int (nI (23 + 21 * j))] _ G 0 0 Q
      refine V_iconst (v := (-1)) d_Mo_change_68 (by decide +kernel) ?_
      have hj4 : j < 4 := Nat.lt_of_lt_of_le hj.1 hR.1.2.2.1
      refine V_icmp_eq (tgt := 76) d_Mo_change_69 (by decide) (fun e => absurd e (nI_ne1 (by omega))) (fun _ => ?_)
      refine V_iconst (v := nI 1) d_Mo_change_72 (by decide +kernel) ?_
      refine V_goto (tgt := 77) d_Mo_change_73 (by decide) ?_
      refine V_istore d_Mo_change_77 (Nat.le_of_ble_eq_true rfl) ?_
      show pV Γ _ _ [some (.ref m), some (.int (nI r)), some (.int (nI k)), some (.int (nI (dNm D))), some (.int (nI 1)), none, none, none] _ _ _ _ _ _
      refine V_iconst (v := nI 0) d_Mo_change_79 (by decide +kernel) ?_
      refine V_istore d_Mo_change_80 (Nat.le_of_ble_eq_true rfl) ?_
      show pV Γ _ _ [some (.ref m), some (.int (nI r)), some (.int (nI k)), some (.int (nI (dNm D))), some (.int (nI 1)), some (.int (nI 0)), none, none] _ _ _ _ _ _
      exact c_chg0 (nmd := True) (pB_t trivial).symm hH hF hKd hVl hr hk5 (by omega) hR (by omega) (fun e => absurd e.1 (by omega)) (hQ G f hF (by rw [hK]; show isRow f r (if dNm D = 0 then D else _); rw [if_pos hb41]; exact hR) (fun x hx => rfl) (fun q hq => rfl))
  · refine V_aload_n d_Mo_change_44 rfl ?_
    refine V_iload_n d_Mo_change_45 rfl ?_
    refine V_bipush (v := nI 23) d_Mo_change_46 (by decide +kernel) ?_
    refine V_aload_n d_Mo_change_48 rfl ?_
    refine V_getf d_Mo_change_49 f_Mo_36 hH rfl ?_
    refine V_iload_n d_Mo_change_52 rfl ?_
    refine V_iaload (j := k) d_Mo_change_53 rfl hVl rfl (by omega) (by omega) ?_
    show pV Γ _ _ _ (.int ((vl k)) :: _) _ _ _ _ _
    refine V_callV (As := [.int (nI r), .int (nI 23), .int ((vl k))]) (rest := []) (lo' := [some (.ref m), some (.int (nI r)), some (.int (nI 23)), some (.int ((vl k)))]) (bc1 := 0) (bs1 := 0) (bc' := 0) (bs' := 0) d_Mo_change_54 k_Mo_change_73 hH rfl rfl rfl rfl (by rfl) (by rfl) ?_
    refine c_Mo_put hH hF (by omega) (fun G1 hF1 ho1 => ?_)
    have hF := hF1
    have hH := (ho1 _ (by omega)).trans hH
    have hKd := (ho1 _ (by omega)).trans hKd
    have hVl := (ho1 _ (by omega)).trans hVl
    have hR := hR.mth (j := 0) (g := upd f (107 * r + 23) (vl k)) (nm := vl k) (fl := dG D 0) (len := dL D 0) (c := dC D 0) (hR.1.2.2.2 0 hb41) (by rw [show 107 * r + (23 + 21 * 0) = 107 * r + 23 by omega, pk_us]) (by rw [pk_un (by omega)]; exact (hR.2.2.2.2.2.2.2 0 hb41).2.1) (by rw [pk_un (by omega)]; exact (hR.2.2.2.2.2.2.2 0 hb41).2.2.1) (fun q hq => by rw [pk_un (by omega)]; exact (hR.2.2.2.2.2.2.2 0 hb41).2.2.2 q hq) (fun x hx => by rw [pk_un (by omega)])
    show pV Γ m_Mo_change 57 [some (.ref m), some (.int (nI r)), some (.int (nI k)), some (.int (nI (dNm D))), none, none, none, none] [] _ G1 0 0 Q
    refine V_aload_n d_Mo_change_57 rfl ?_
    refine V_iload_n d_Mo_change_58 rfl ?_
    refine V_aload_n d_Mo_change_59 rfl ?_
    refine V_getf d_Mo_change_60 f_Mo_36 hH rfl ?_
    refine V_iload_n d_Mo_change_63 rfl ?_
    refine V_iaload (j := k) d_Mo_change_64 rfl hVl rfl (by omega) (by omega) ?_
    show pV Γ _ _ _ (.int ((vl k)) :: _) _ _ _ _ _
    refine V_callV (As := [.int (nI r), .int ((vl k))]) (rest := []) (lo' := [some (.ref m), some (.int (nI r)), some (.int ((vl k))), none]) (bc1 := 0) (bs1 := 0) (bc' := 0) (bs' := 0) d_Mo_change_65 k_Mo_change_89 hH rfl rfl rfl rfl (by rfl) (by rfl) ?_
    refine c_Mo_find hH hF hr hR (fun hn => ?_) (fun j hj => ?_)
    · show pV Γ m_Mo_change 68 [some (.ref m), some (.int (nI r)), some (.int (nI k)), some (.int (nI (dNm D))), none, none, none, none] [.int ((-1))] _ G1 0 0 Q
      refine V_iconst (v := (-1)) d_Mo_change_68 (by decide +kernel) ?_
      refine V_icmp_eq (tgt := 76) d_Mo_change_69 (by decide) (fun _ => ?_) (fun e => absurd rfl e)
      refine V_iconst (v := nI 0) d_Mo_change_76 (by decide +kernel) ?_
      refine V_istore d_Mo_change_77 (Nat.le_of_ble_eq_true rfl) ?_
      show pV Γ _ _ [some (.ref m), some (.int (nI r)), some (.int (nI k)), some (.int (nI (dNm D))), some (.int (nI 0)), none, none, none] _ _ _ _ _ _
      refine V_iconst (v := nI 0) d_Mo_change_79 (by decide +kernel) ?_
      refine V_istore d_Mo_change_80 (Nat.le_of_ble_eq_true rfl) ?_
      show pV Γ _ _ [some (.ref m), some (.int (nI r)), some (.int (nI k)), some (.int (nI (dNm D))), some (.int (nI 0)), some (.int (nI 0)), none, none] _ _ _ _ _ _
      exact c_chg0 (D := (dSetM D 0 (vl k) (dG D 0) (dL D 0) (dC D 0))) (nmd := False) (pB_f (fun e => e)).symm hH hF hKd hVl hr hk5 (by omega) hR (by omega) (fun e => absurd e.1 (by omega)) (hQ G1 _ hF (by rw [hK]; show isRow _ r (if dNm D = 0 then D else _); rw [if_neg (by omega)]; exact hR) (fun x hx => pk_un (by omega)) (fun q hq => ho1 q hq))
    · show pV Γ m_Mo_change 68 [some (.ref m), some (.int (nI r)), some (.int (nI k)), some (.int (nI (dNm D))), none, none, none, none] [.int (nI (23 + 21 * j))] _ G1 0 0 Q
      refine V_iconst (v := (-1)) d_Mo_change_68 (by decide +kernel) ?_
      have hj4 : j < 4 := Nat.lt_of_lt_of_le hj.1 hR.1.2.2.1
      refine V_icmp_eq (tgt := 76) d_Mo_change_69 (by decide) (fun e => absurd e (nI_ne1 (by omega))) (fun _ => ?_)
      refine V_iconst (v := nI 1) d_Mo_change_72 (by decide +kernel) ?_
      refine V_goto (tgt := 77) d_Mo_change_73 (by decide) ?_
      refine V_istore d_Mo_change_77 (Nat.le_of_ble_eq_true rfl) ?_
      show pV Γ _ _ [some (.ref m), some (.int (nI r)), some (.int (nI k)), some (.int (nI (dNm D))), some (.int (nI 1)), none, none, none] _ _ _ _ _ _
      refine V_iconst (v := nI 0) d_Mo_change_79 (by decide +kernel) ?_
      refine V_istore d_Mo_change_80 (Nat.le_of_ble_eq_true rfl) ?_
      show pV Γ _ _ [some (.ref m), some (.int (nI r)), some (.int (nI k)), some (.int (nI (dNm D))), some (.int (nI 1)), some (.int (nI 0)), none, none] _ _ _ _ _ _
      exact c_chg0 (D := (dSetM D 0 (vl k) (dG D 0) (dL D 0) (dC D 0))) (nmd := True) (pB_t trivial).symm hH hF hKd hVl hr hk5 (by omega) hR (by omega) (fun e => absurd e.1 (by omega)) (hQ G1 _ hF (by rw [hK]; show isRow _ r (if dNm D = 0 then D else _); rw [if_neg (by omega)]; exact hR) (fun x hx => pk_un (by omega)) (fun q hq => ho1 q hq))
theorem c_Mo_change {Γ : pmE} {G : pmG} {n : Nat} {Q : pmPost} {m : Nat} {ch ba : Int32} {f : Nat → Int32} {kd : Nat → Nat} {vl : Nat → Int32} {r k : Nat} {D : Dfn} (hH : G m = some (.inr (kMo, moFs m ch ba))) (hF : G (m + 1) = some (.inl (0, 4387, .inl f))) (hKd : G (m + 7) = some (.inl (0, 5, .inl (fun j => nI (kd j))))) (hVl : G (m + 8) = some (.inl (0, 5, .inl vl))) (hr : r < 41) (hk5 : k < 5) (hk4 : kd k ≤ 4) (hR : isRow f r D) (hQ : ∀ G' g, G' (m + 1) = some (.inl (0, 4387, .inl g)) → isRow g r (dChg (kd k) (vl k) D) → (∀ x, (x < 107 * r ∨ 107 * r + 107 ≤ x) → g x = f x) → (∀ q, q ≠ m + 1 → G' q = G q) → Q none n G') : pV Γ m_Mo_change 0 [some (.ref m), some (.int (nI r)), some (.int (nI k)), none, none, none, none, none] [] n G 0 0 Q := by
  rcases (show kd k = 0 ∨ kd k = 1 ∨ kd k = 2 ∨ kd k = 3 ∨ kd k = 4 by omega) with h | h | h | h | h
  · exact c_Mo_change0 hH hF hKd hVl hr hk5 hR h hQ
  · exact c_Mo_change1 hH hF hKd hVl hr hk5 hR h hQ
  · exact c_Mo_change2 hH hF hKd hVl hr hk5 hR h hQ
  · exact c_Mo_change3 hH hF hKd hVl hr hk5 hR h hQ
  · exact c_Mo_change4 hH hF hKd hVl hr hk5 hR h hQ
def mT (tk : Nat → Bool) (kd : Nat → Nat) (vl on : Nat → Int32) (rp : Nat → Bool) : Nat → Trf := fun k => (tk k, kd k, vl k, on k, rp k)
set_option maxHeartbeats 1000000 in
theorem c_Mo_changes {Γ : pmE} {G : pmG} {n : Nat} {Q : pmPost} {m : Nat} {ch ba : Int32} {f : Nat → Int32} {tk : Nat → Bool} {kd : Nat → Nat} {vl : Nat → Int32} {on : Nat → Int32} {rp : Nat → Bool} {r : Nat} {c x : Int32} {again : Bool} {D : Dfn} (hH : G m = some (.inr (kMo, moFs m ch ba))) (hF : G (m + 1) = some (.inl (0, 4387, .inl f))) (hTk : G (m + 6) = some (.inl (1, 5, .inl (fun j => pB (tk j = true))))) (hKd : G (m + 7) = some (.inl (0, 5, .inl (fun j => nI (kd j))))) (hVl : G (m + 8) = some (.inl (0, 5, .inl vl))) (hOn : G (m + 9) = some (.inl (0, 5, .inl on))) (hRp : G (m + 10) = some (.inl (1, 5, .inl (fun j => pB (rp j = true))))) (hr : r < 41) (hk4 : ∀ k, k < 5 → kd k ≤ 4) (hx : x = pB (again = true)) (hR : isRow f r D) (hQ : ∀ G' g, G' (m + 1) = some (.inl (0, 4387, .inl g)) → isRow g r (dChgs (mT tk kd vl on rp) c again D 5) → (∀ x, (x < 107 * r ∨ 107 * r + 107 ≤ x) → g x = f x) → (∀ q, q ≠ m + 1 → G' q = G q) → Q none n G') : pV Γ m_Mo_changes 0 [some (.ref m), some (.int (nI r)), some (.int c), some (.int x), none] [] n G 0 0 Q := by
  subst hx
  have loop : ∀ (d i : Nat), i ≤ 5 → 5 - i < d → ∀ (G1 : pmG) (g : Nat → Int32), G1 m = some (.inr (kMo, moFs m ch ba)) → G1 (m + 1) = some (.inl (0, 4387, .inl g)) → G1 (m + 6) = some (.inl (1, 5, .inl (fun j => pB (tk j = true)))) → G1 (m + 7) = some (.inl (0, 5, .inl (fun j => nI (kd j)))) → G1 (m + 8) = some (.inl (0, 5, .inl vl)) → G1 (m + 9) = some (.inl (0, 5, .inl on)) → G1 (m + 10) = some (.inl (1, 5, .inl (fun j => pB (rp j = true)))) → isRow g r (dChgs (mT tk kd vl on rp) c again D i) → (∀ x, (x < 107 * r ∨ 107 * r + 107 ≤ x) → g x = f x) → (∀ q, q ≠ m + 1 → G1 q = G q) → pV Γ m_Mo_changes 3 [some (.ref m), some (.int (nI r)), some (.int c), some (.int (pB (again = true))), some (.int (nI i))] [] n G1 0 0 Q := by
    intro d
    induction d with
    | zero => intro i _ hd; exact absurd hd (by omega)
    | succ d ih =>
      intro i hi hd G1 g hH hF hTk hKd hVl hOn hRp hR hx0 ho
      refine V_iload d_Mo_changes_3 rfl ?_
      refine V_iconst (v := nI 5) d_Mo_changes_5 (by decide +kernel) ?_
      refine V_icmp_geN (tgt := 65) d_Mo_changes_6 (by decide) (by omega) (by omega) (fun hb6 => ?_) (fun hb6 => ?_)
      · exact V_return d_Mo_changes_65 rfl (hQ G1 g hF (by rw [show i = 5 by omega] at hR; exact hR) hx0 ho)
      · refine V_aload_n d_Mo_changes_9 rfl ?_
        refine V_getf d_Mo_changes_10 f_Mo_29 hH rfl ?_
        refine V_iload d_Mo_changes_13 rfl ?_
        refine V_baload (j := i) d_Mo_changes_15 rfl hTk rfl (by omega) (by omega) ?_
        show pV Γ _ _ _ (.int (pB (tk i = true)) :: _) _ _ _ _ _
        refine V_if_eqB (tgt := 59) d_Mo_changes_16 (by decide) (fun hb16 => ?_) (fun hb16 => ?_)
        · refine V_iincN d_Mo_changes_59 rfl ?_
          show pV Γ _ _ [some (.ref m), some (.int (nI r)), some (.int c), some (.int (pB (again = true))), some (.int (nI (i + 1)))] _ _ _ _ _ _
          refine V_goto (tgt := 3) d_Mo_changes_62 (by decide) ?_
          refine ih (i + 1) (by omega) (by omega) G1 g hH hF hTk hKd hVl hOn hRp ?_ hx0 ho
          show isRow g r (dChgs (mT tk kd vl on rp) c again D (i + 1))
          unfold dChgs
          rw [pI_f (fun e => by first | exact hb16 e.1 | exact hb27 (by have e2 : rp i = again := e.2.1; rw [e2]) | exact e.2.2.elim hb38 hb49)]
          exact hR
        · refine V_aload_n d_Mo_changes_19 rfl ?_
          refine V_getf d_Mo_changes_20 f_Mo_42 hH rfl ?_
          refine V_iload d_Mo_changes_23 rfl ?_
          refine V_baload (j := i) d_Mo_changes_25 rfl hRp rfl (by omega) (by omega) ?_
          show pV Γ _ _ _ (.int (pB (rp i = true)) :: _) _ _ _ _ _
          refine V_iload_n d_Mo_changes_26 rfl ?_
          refine V_icmp_ne (tgt := 59) d_Mo_changes_27 (by decide) (fun hb27 => ?_) (fun hb27 => ?_)
          · refine V_iincN d_Mo_changes_59 rfl ?_
            show pV Γ _ _ [some (.ref m), some (.int (nI r)), some (.int c), some (.int (pB (again = true))), some (.int (nI (i + 1)))] _ _ _ _ _ _
            refine V_goto (tgt := 3) d_Mo_changes_62 (by decide) ?_
            refine ih (i + 1) (by omega) (by omega) G1 g hH hF hTk hKd hVl hOn hRp ?_ hx0 ho
            show isRow g r (dChgs (mT tk kd vl on rp) c again D (i + 1))
            unfold dChgs
            rw [pI_f (fun e => by first | exact hb16 e.1 | exact hb27 (by have e2 : rp i = again := e.2.1; rw [e2]) | exact e.2.2.elim hb38 hb49)]
            exact hR
          · refine V_aload_n d_Mo_changes_30 rfl ?_
            refine V_getf d_Mo_changes_31 f_Mo_39 hH rfl ?_
            refine V_iload d_Mo_changes_34 rfl ?_
            refine V_iaload (j := i) d_Mo_changes_36 rfl hOn rfl (by omega) (by omega) ?_
            show pV Γ _ _ _ (.int ((on i)) :: _) _ _ _ _ _
            refine V_iconst (v := (-1)) d_Mo_changes_37 (by decide +kernel) ?_
            refine V_icmp_eq (tgt := 52) d_Mo_changes_38 (by decide) (fun hb38 => ?_) (fun hb38 => ?_)
            · refine V_aload_n d_Mo_changes_52 rfl ?_
              refine V_iload_n d_Mo_changes_53 rfl ?_
              refine V_iload d_Mo_changes_54 rfl ?_
              refine V_callV (As := [.int (nI r), .int (nI i)]) (rest := []) (lo' := [some (.ref m), some (.int (nI r)), some (.int (nI i)), none, none, none, none, none]) (bc1 := 0) (bs1 := 0) (bc' := 0) (bs' := 0) d_Mo_changes_56 k_Mo_changes_92 hH rfl rfl rfl rfl (by rfl) (by rfl) ?_
              refine c_Mo_change hH hF hKd hVl hr (by omega) (hk4 i (by omega)) hR (fun G2 g2 hF2 hR2 hx2 ho2 => ?_)
              have hH := (ho2 _ (by omega)).trans hH
              have hTk := (ho2 _ (by omega)).trans hTk
              have hKd := (ho2 _ (by omega)).trans hKd
              have hVl := (ho2 _ (by omega)).trans hVl
              have hOn := (ho2 _ (by omega)).trans hOn
              have hRp := (ho2 _ (by omega)).trans hRp
              show pV Γ m_Mo_changes 59 [some (.ref m), some (.int (nI r)), some (.int c), some (.int (pB (again = true))), some (.int (nI i))] [] _ G2 0 0 Q
              refine V_iincN d_Mo_changes_59 rfl ?_
              show pV Γ _ _ [some (.ref m), some (.int (nI r)), some (.int c), some (.int (pB (again = true))), some (.int (nI (i + 1)))] _ _ _ _ _ _
              refine V_goto (tgt := 3) d_Mo_changes_62 (by decide) ?_
              refine ih (i + 1) (by omega) (by omega) G2 g2 hH hF2 hTk hKd hVl hOn hRp ?_ (fun x hx => by rw [hx2 x hx, hx0 x hx]) (fun q hq => by rw [ho2 q hq, ho q hq])
              show isRow g2 r (dChgs (mT tk kd vl on rp) c again D (i + 1))
              unfold dChgs
              rw [pI_t ⟨hb16, by
                have e := pB_inj hb27
                show rp i = again
                rcases (Bool.eq_false_or_eq_true again) with g' | g'
                · rw [g'] at e ⊢; exact e.mpr rfl
                · rw [g'] at e ⊢; exact Bool.eq_false_iff.mpr (fun z => absurd (e.mp z) (by decide)), by first | exact Or.inl hb38 | exact Or.inr hb49⟩]
              exact hR2
            · refine V_aload_n d_Mo_changes_41 rfl ?_
              refine V_getf d_Mo_changes_42 f_Mo_39 hH rfl ?_
              refine V_iload d_Mo_changes_45 rfl ?_
              refine V_iaload (j := i) d_Mo_changes_47 rfl hOn rfl (by omega) (by omega) ?_
              show pV Γ _ _ _ (.int ((on i)) :: _) _ _ _ _ _
              refine V_iload_n d_Mo_changes_48 rfl ?_
              refine V_icmp_ne (tgt := 59) d_Mo_changes_49 (by decide) (fun hb49 => ?_) (fun hb49 => ?_)
              · refine V_iincN d_Mo_changes_59 rfl ?_
                show pV Γ _ _ [some (.ref m), some (.int (nI r)), some (.int c), some (.int (pB (again = true))), some (.int (nI (i + 1)))] _ _ _ _ _ _
                refine V_goto (tgt := 3) d_Mo_changes_62 (by decide) ?_
                refine ih (i + 1) (by omega) (by omega) G1 g hH hF hTk hKd hVl hOn hRp ?_ hx0 ho
                show isRow g r (dChgs (mT tk kd vl on rp) c again D (i + 1))
                unfold dChgs
                rw [pI_f (fun e => by first | exact hb16 e.1 | exact hb27 (by have e2 : rp i = again := e.2.1; rw [e2]) | exact e.2.2.elim hb38 hb49)]
                exact hR
              · refine V_aload_n d_Mo_changes_52 rfl ?_
                refine V_iload_n d_Mo_changes_53 rfl ?_
                refine V_iload d_Mo_changes_54 rfl ?_
                refine V_callV (As := [.int (nI r), .int (nI i)]) (rest := []) (lo' := [some (.ref m), some (.int (nI r)), some (.int (nI i)), none, none, none, none, none]) (bc1 := 0) (bs1 := 0) (bc' := 0) (bs' := 0) d_Mo_changes_56 k_Mo_changes_92 hH rfl rfl rfl rfl (by rfl) (by rfl) ?_
                refine c_Mo_change hH hF hKd hVl hr (by omega) (hk4 i (by omega)) hR (fun G2 g2 hF2 hR2 hx2 ho2 => ?_)
                have hH := (ho2 _ (by omega)).trans hH
                have hTk := (ho2 _ (by omega)).trans hTk
                have hKd := (ho2 _ (by omega)).trans hKd
                have hVl := (ho2 _ (by omega)).trans hVl
                have hOn := (ho2 _ (by omega)).trans hOn
                have hRp := (ho2 _ (by omega)).trans hRp
                show pV Γ m_Mo_changes 59 [some (.ref m), some (.int (nI r)), some (.int c), some (.int (pB (again = true))), some (.int (nI i))] [] _ G2 0 0 Q
                refine V_iincN d_Mo_changes_59 rfl ?_
                show pV Γ _ _ [some (.ref m), some (.int (nI r)), some (.int c), some (.int (pB (again = true))), some (.int (nI (i + 1)))] _ _ _ _ _ _
                refine V_goto (tgt := 3) d_Mo_changes_62 (by decide) ?_
                refine ih (i + 1) (by omega) (by omega) G2 g2 hH hF2 hTk hKd hVl hOn hRp ?_ (fun x hx => by rw [hx2 x hx, hx0 x hx]) (fun q hq => by rw [ho2 q hq, ho q hq])
                show isRow g2 r (dChgs (mT tk kd vl on rp) c again D (i + 1))
                unfold dChgs
                rw [pI_t ⟨hb16, by
                  have e := pB_inj hb27
                  show rp i = again
                  rcases (Bool.eq_false_or_eq_true again) with g' | g'
                  · rw [g'] at e ⊢; exact e.mpr rfl
                  · rw [g'] at e ⊢; exact Bool.eq_false_iff.mpr (fun z => absurd (e.mp z) (by decide)), by first | exact Or.inl hb38 | exact Or.inr hb49⟩]
                exact hR2
  refine V_iconst (v := nI 0) d_Mo_changes_0 (by decide +kernel) ?_
  refine V_istore d_Mo_changes_1 (Nat.le_of_ble_eq_true rfl) ?_
  show pV Γ _ _ [some (.ref m), some (.int (nI r)), some (.int c), some (.int (pB (again = true))), some (.int (nI 0))] _ _ _ _ _ _
  exact loop 6 0 (by omega) (by omega) G f hH hF hTk hKd hVl hOn hRp hR (fun x _ => rfl) (fun q _ => rfl)
set_option maxHeartbeats 1000000 in
theorem c_Mo_treat {Γ : pmE} {G : pmG} {n : Nat} {Q : pmPost} {m : Nat} {ch ba : Int32} {f : Nat → Int32} {tk : Nat → Bool} {kd : Nat → Nat} {vl : Nat → Int32} {on : Nat → Int32} {rp : Nat → Bool} {r s : Nat} {c : Int32} {D : Dfn} (hH : G m = some (.inr (kMo, moFs m ch ba))) (hF : G (m + 1) = some (.inl (0, 4387, .inl f))) (hTk : G (m + 6) = some (.inl (1, 5, .inl (fun j => pB (tk j = true))))) (hKd : G (m + 7) = some (.inl (0, 5, .inl (fun j => nI (kd j))))) (hVl : G (m + 8) = some (.inl (0, 5, .inl vl))) (hOn : G (m + 9) = some (.inl (0, 5, .inl on))) (hRp : G (m + 10) = some (.inl (1, 5, .inl (fun j => pB (rp j = true))))) (hr : r < 41) (hs : s < 41) (hne : r ≠ s) (hk4 : ∀ k, k < 5 → kd k ≤ 4) (hR : isRow f r D) (hQ : ∀ G' g, G' (m + 1) = some (.inl (0, 4387, .inl g)) → isRow g r (dTr (mT tk kd vl on rp) D c) → isRow g s (dOr (mT tk kd vl on rp) D c) → (∀ x, ((x < 107 * r ∨ 107 * r + 107 ≤ x) ∧ (x < 107 * s ∨ 107 * s + 107 ≤ x)) → g x = f x) → (∀ q, q ≠ m + 1 → G' q = G q) → Q none n G') : pV Γ m_Mo_treat 0 [some (.ref m), some (.int (nI r)), some (.int (nI s)), some (.int c)] [] n G 0 0 Q := by
  refine V_aload_n d_Mo_treat_0 rfl ?_
  refine V_iload_n d_Mo_treat_1 rfl ?_
  refine V_iload_n d_Mo_treat_2 rfl ?_
  refine V_iconst (v := nI 0) d_Mo_treat_3 (by decide +kernel) ?_
  refine V_callV (As := [.int (nI r), .int c, .int (nI 0)]) (rest := []) (lo' := [some (.ref m), some (.int (nI r)), some (.int c), some (.int (nI 0)), none]) (bc1 := 0) (bs1 := 0) (bc' := 0) (bs' := 0) d_Mo_treat_4 k_Mo_treat_95 hH rfl rfl rfl rfl (by rfl) (by rfl) ?_
  refine c_Mo_changes (again := false) hH hF hTk hKd hVl hOn hRp hr hk4 (pB_f (by decide)).symm hR (fun G1 g1 hF1 hR1 hx1 ho1 => ?_)
  have hH := (ho1 _ (by omega)).trans hH
  have hTk := (ho1 _ (by omega)).trans hTk
  have hKd := (ho1 _ (by omega)).trans hKd
  have hVl := (ho1 _ (by omega)).trans hVl
  have hOn := (ho1 _ (by omega)).trans hOn
  have hRp := (ho1 _ (by omega)).trans hRp
  show pV Γ m_Mo_treat 7 [some (.ref m), some (.int (nI r)), some (.int (nI s)), some (.int c)] [] _ G1 0 0 Q
  refine V_aload_n d_Mo_treat_7 rfl ?_
  refine V_iload_n d_Mo_treat_8 rfl ?_
  refine V_iload_n d_Mo_treat_9 rfl ?_
  refine V_callV (As := [.int (nI r), .int (nI s)]) (rest := []) (lo' := [some (.ref m), some (.int (nI r)), some (.int (nI s)), none]) (bc1 := 0) (bs1 := 0) (bc' := 0) (bs' := 0) d_Mo_treat_10 k_Mo_treat_81 hH rfl rfl rfl rfl (by rfl) (by rfl) ?_
  refine c_Mo_transcribe hH hF1 hr hs hne (fun G2 g2 hF2 hc2 hx2 ho2 => ?_)
  have hH := (ho2 _ (by omega)).trans hH
  have hTk := (ho2 _ (by omega)).trans hTk
  have hKd := (ho2 _ (by omega)).trans hKd
  have hVl := (ho2 _ (by omega)).trans hVl
  have hOn := (ho2 _ (by omega)).trans hOn
  have hRp := (ho2 _ (by omega)).trans hRp
  have hRf := hR1.cpy hc2
  have hR2 := hR1.kept (f' := g2) (fun x h1 h2 => hx2 x (by omega))
  show pV Γ m_Mo_treat 13 [some (.ref m), some (.int (nI r)), some (.int (nI s)), some (.int c)] [] _ G2 0 0 Q
  refine V_aload_n d_Mo_treat_13 rfl ?_
  refine V_iload_n d_Mo_treat_14 rfl ?_
  refine V_iload_n d_Mo_treat_15 rfl ?_
  refine V_iconst (v := nI 1) d_Mo_treat_16 (by decide +kernel) ?_
  refine V_callV (As := [.int (nI r), .int c, .int (nI 1)]) (rest := []) (lo' := [some (.ref m), some (.int (nI r)), some (.int c), some (.int (nI 1)), none]) (bc1 := 0) (bs1 := 0) (bc' := 0) (bs' := 0) d_Mo_treat_17 k_Mo_treat_95 hH rfl rfl rfl rfl (by rfl) (by rfl) ?_
  refine c_Mo_changes (again := true) hH hF2 hTk hKd hVl hOn hRp hr hk4 (pB_t rfl).symm hR2 (fun G3 g3 hF3 hR3 hx3 ho3 => ?_)
  show pV Γ m_Mo_treat 20 [some (.ref m), some (.int (nI r)), some (.int (nI s)), some (.int c)] [] _ G3 0 0 Q
  exact V_return d_Mo_treat_20 rfl (hQ G3 g3 hF3 hR3 (hRf.kept fun x h1 h2 => hx3 x (by omega)) (fun x hx => by rw [hx3 x (by omega), hx2 x (by omega), hx1 x (by omega)]) (fun q hq => by rw [ho3 q hq, ho2 q hq, ho1 q hq]))
