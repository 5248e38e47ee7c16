/-! The reference: transformers, batch, threads, its making. -/
set_option maxHeartbeats 1000000 in
theorem c_Mo_transformer {Γ : pmE} {G : pmG} {n : Nat} {Q : pmPost} {m : Nat} {ch ba : Int32} {tk : Nat → Bool} {kd : Nat → Nat} {vl : Nat → Int32} {on : Nat → Int32} {rp : Nat → Bool} {kd0 : Nat} {v y : Int32} {rb : Bool} (hH : G m = some (.inr (kMo, moFs m ch ba))) (hTk : G (m + 6) = some (.inl (1, 5, .inl (fun j => pB (tk j = true))))) (hKd : G (m + 7) = some (.inl (0, 5, .inl (fun j => nI (kd j))))) (hVl : G (m + 8) = some (.inl (0, 5, .inl vl))) (hOn : G (m + 9) = some (.inl (0, 5, .inl on))) (hRp : G (m + 10) = some (.inl (1, 5, .inl (fun j => pB (rp j = true))))) (hk : kd0 ≤ 4) (hN : (∀ j, j < 5 → tk j = true) → Q (some (.int (-1))) n G) (hS : ∀ j, j < 5 → tk j = false → (∀ i, i < j → tk i = true) → ∀ G', G' (m + 6) = some (.inl (1, 5, .inl (fun i => pB (va_up tk j true i = true)))) → G' (m + 7) = some (.inl (0, 5, .inl (fun i => nI (va_up kd j kd0 i)))) → G' (m + 8) = some (.inl (0, 5, .inl (upd vl j v))) → G' (m + 9) = some (.inl (0, 5, .inl (upd on j (onI y)))) → G' (m + 10) = some (.inl (1, 5, .inl (fun i => pB (va_up rp j rb i = true)))) → (∀ q, (q < m + 6 ∨ m + 11 ≤ q) → G' q = G q) → Q (some (.int (nI j))) n G') : pV Γ m_Mo_transformer 0 [some (.ref m), some (.int (nI kd0)), some (.int v), some (.int y), some (.int (pB (rb = true))), none] [] n G 0 0 Q := by
  have loop : ∀ (d i : Nat), i ≤ 5 → 5 - i < d → (∀ j, j < i → tk j = true) → pV Γ m_Mo_transformer 3 [some (.ref m), some (.int (nI kd0)), some (.int v), some (.int y), some (.int (pB (rb = true))), some (.int (nI i))] [] n G 0 0 Q := by
    intro d
    induction d with
    | zero => intro i _ hd; exact absurd hd (by omega)
    | succ d ih =>
      intro i hi hd hv
      refine V_iload d_Mo_transformer_3 rfl ?_
      refine V_iconst (v := nI 5) d_Mo_transformer_5 (by decide +kernel) ?_
      refine V_icmp_geN (tgt := 25) d_Mo_transformer_6 (by decide) (by omega) (by omega) (fun hb6 => ?_) (fun hb6 => ?_)
      · refine V_iload d_Mo_transformer_25 rfl ?_
        refine V_iconst (v := nI 5) d_Mo_transformer_27 (by decide +kernel) ?_
        refine V_icmp_eqN (tgt := 40) d_Mo_transformer_28 (by decide) (by omega) (by omega) (fun hb28 => ?_) (fun hb28 => ?_)
        · refine V_iconst (v := (-1)) d_Mo_transformer_40 (by decide +kernel) ?_
          exact V_ireturn d_Mo_transformer_41 rfl (by first | exact hN (fun j hj => hv j (by omega)) | exact absurd hk (by omega))
        · refine V_iload_n d_Mo_transformer_31 rfl ?_
          refine V_if_ltN (tgt := 40) d_Mo_transformer_32 (by decide) (by omega) ?_
          refine V_iload_n d_Mo_transformer_35 rfl ?_
          refine V_iconst (v := nI 4) d_Mo_transformer_36 (by decide +kernel) ?_
          refine V_icmp_leN (tgt := 42) d_Mo_transformer_37 (by decide) (by omega) (by omega) (fun hb37 => ?_) (fun hb37 => ?_)
          · refine V_aload_n d_Mo_transformer_42 rfl ?_
            refine V_getf d_Mo_transformer_43 f_Mo_29 hH rfl ?_
            refine V_iload d_Mo_transformer_46 rfl ?_
            refine V_iconst (v := nI 1) d_Mo_transformer_48 (by decide +kernel) ?_
            refine V_bastore (j := i) d_Mo_transformer_49 rfl hTk rfl (by omega) (by omega) (by first | exact pB_or _ | exact Or.inl rfl | exact Or.inr rfl) (fun G1 hTkz ho1 => ?_)
            have hTk : G1 (m + 6) = some (.inl (1, 5, .inl (fun j0 => pB ((va_up tk i true) j0 = true)))) := by rw [hTkz, upd_p1]
            have hH := (ho1 _ (by omega)).trans hH
            have hKd := (ho1 _ (by omega)).trans hKd
            have hVl := (ho1 _ (by omega)).trans hVl
            have hOn := (ho1 _ (by omega)).trans hOn
            have hRp := (ho1 _ (by omega)).trans hRp
            refine V_aload_n d_Mo_transformer_50 rfl ?_
            refine V_getf d_Mo_transformer_51 f_Mo_33 hH rfl ?_
            refine V_iload d_Mo_transformer_54 rfl ?_
            refine V_iload_n d_Mo_transformer_56 rfl ?_
            refine V_iastore (j := i) d_Mo_transformer_57 rfl hKd rfl (by omega) (by omega) (fun G2 hKdz ho2 => ?_)
            have hKd : G2 (m + 7) = some (.inl (0, 5, .inl (fun j0 => nI ((va_up kd i kd0) j0)))) := by rw [hKdz, upd_nI]
            have hH := (ho2 _ (by omega)).trans hH
            have hTk := (ho2 _ (by omega)).trans hTk
            have hVl := (ho2 _ (by omega)).trans hVl
            have hOn := (ho2 _ (by omega)).trans hOn
            have hRp := (ho2 _ (by omega)).trans hRp
            refine V_aload_n d_Mo_transformer_58 rfl ?_
            refine V_getf d_Mo_transformer_59 f_Mo_36 hH rfl ?_
            refine V_iload d_Mo_transformer_62 rfl ?_
            refine V_iload_n d_Mo_transformer_64 rfl ?_
            refine V_iastore (j := i) d_Mo_transformer_65 rfl hVl rfl (by omega) (by omega) (fun G3 hVlz ho3 => ?_)
            have hVl : G3 (m + 8) = some (.inl (0, 5, .inl (fun j0 => (upd vl i v) j0))) := hVlz
            have hH := (ho3 _ (by omega)).trans hH
            have hTk := (ho3 _ (by omega)).trans hTk
            have hKd := (ho3 _ (by omega)).trans hKd
            have hOn := (ho3 _ (by omega)).trans hOn
            have hRp := (ho3 _ (by omega)).trans hRp
            refine V_aload_n d_Mo_transformer_66 rfl ?_
            refine V_getf d_Mo_transformer_67 f_Mo_39 hH rfl ?_
            refine V_iload d_Mo_transformer_70 rfl ?_
            refine V_iload_n d_Mo_transformer_72 rfl ?_
            refine V_if_lt (tgt := 81) d_Mo_transformer_73 (by decide) (fun hb73 => ?_) (fun hb73 => ?_)
            · refine V_iconst (v := (-1)) d_Mo_transformer_81 (by decide +kernel) ?_
              refine V_goto (tgt := 86) d_Mo_transformer_82 (by decide) ?_
              refine V_iastore (j := i) d_Mo_transformer_86 rfl hOn rfl (by omega) (by omega) (fun G4 hOnz ho4 => ?_)
              have hOn : G4 (m + 9) = some (.inl (0, 5, .inl (fun j0 => (upd on i ((-1))) j0))) := hOnz
              have hH := (ho4 _ (by omega)).trans hH
              have hTk := (ho4 _ (by omega)).trans hTk
              have hKd := (ho4 _ (by omega)).trans hKd
              have hVl := (ho4 _ (by omega)).trans hVl
              have hRp := (ho4 _ (by omega)).trans hRp
              refine V_aload_n d_Mo_transformer_87 rfl ?_
              refine V_getf d_Mo_transformer_88 f_Mo_42 hH rfl ?_
              refine V_iload d_Mo_transformer_91 rfl ?_
              refine V_iload d_Mo_transformer_93 rfl ?_
              refine V_bastore (j := i) d_Mo_transformer_95 rfl hRp rfl (by omega) (by omega) (by first | exact pB_or _ | exact Or.inl rfl | exact Or.inr rfl) (fun G5 hRpz ho5 => ?_)
              have hRp : G5 (m + 10) = some (.inl (1, 5, .inl (fun j0 => pB ((va_up rp i rb) j0 = true)))) := by rw [hRpz, upd_pB]
              have hH := (ho5 _ (by omega)).trans hH
              have hTk := (ho5 _ (by omega)).trans hTk
              have hKd := (ho5 _ (by omega)).trans hKd
              have hVl := (ho5 _ (by omega)).trans hVl
              have hOn := (ho5 _ (by omega)).trans hOn
              refine V_iload d_Mo_transformer_96 rfl ?_
              exact V_ireturn d_Mo_transformer_98 rfl (by first | exact absurd hb6 (by omega) | exact hS i (by omega) (by simpa using hb16) hv _ hTk hKd hVl (by rw [show onI y = -1 from pI_f (fun ⟨j, hj, e⟩ => by first | exact nI_out (n := 6) (by omega) hj (Or.inl hb73) e | exact nI_out (n := 6) (by omega) hj (Or.inr ((nI_lts (k := 5) (by omega)).mp (Int32.not_le.mp hb78))) e)]; exact hOn) hRp (fun q hq => by rw [ho5 q (by omega), ho4 q (by omega), ho3 q (by omega), ho2 q (by omega), ho1 q (by omega)]))
            · refine V_iload_n d_Mo_transformer_76 rfl ?_
              refine V_iconst (v := nI 5) d_Mo_transformer_77 (by decide +kernel) ?_
              refine V_icmp_le (tgt := 85) d_Mo_transformer_78 (by decide) (fun hb78 => ?_) (fun hb78 => ?_)
              · refine V_iload_n d_Mo_transformer_85 rfl ?_
                refine V_iastore (j := i) d_Mo_transformer_86 rfl hOn rfl (by omega) (by omega) (fun G4 hOnz ho4 => ?_)
                have hOn : G4 (m + 9) = some (.inl (0, 5, .inl (fun j0 => (upd on i y) j0))) := hOnz
                have hH := (ho4 _ (by omega)).trans hH
                have hTk := (ho4 _ (by omega)).trans hTk
                have hKd := (ho4 _ (by omega)).trans hKd
                have hVl := (ho4 _ (by omega)).trans hVl
                have hRp := (ho4 _ (by omega)).trans hRp
                refine V_aload_n d_Mo_transformer_87 rfl ?_
                refine V_getf d_Mo_transformer_88 f_Mo_42 hH rfl ?_
                refine V_iload d_Mo_transformer_91 rfl ?_
                refine V_iload d_Mo_transformer_93 rfl ?_
                refine V_bastore (j := i) d_Mo_transformer_95 rfl hRp rfl (by omega) (by omega) (by first | exact pB_or _ | exact Or.inl rfl | exact Or.inr rfl) (fun G5 hRpz ho5 => ?_)
                have hRp : G5 (m + 10) = some (.inl (1, 5, .inl (fun j0 => pB ((va_up rp i rb) j0 = true)))) := by rw [hRpz, upd_pB]
                have hH := (ho5 _ (by omega)).trans hH
                have hTk := (ho5 _ (by omega)).trans hTk
                have hKd := (ho5 _ (by omega)).trans hKd
                have hVl := (ho5 _ (by omega)).trans hVl
                have hOn := (ho5 _ (by omega)).trans hOn
                refine V_iload d_Mo_transformer_96 rfl ?_
                exact V_ireturn d_Mo_transformer_98 rfl (by first | exact absurd hb6 (by omega) | exact hS i (by omega) (by simpa using hb16) hv _ hTk hKd hVl (by rw [show onI y = y from pI_t (((pk_ix y (n := 6) (by omega)).resolve_left hb73).resolve_left (fun e => absurd hb78 (Int32.not_le.mpr ((nI_lts (k := 5) (by omega)).mpr e))))]; exact hOn) hRp (fun q hq => by rw [ho5 q (by omega), ho4 q (by omega), ho3 q (by omega), ho2 q (by omega), ho1 q (by omega)]))
              · refine V_iconst (v := (-1)) d_Mo_transformer_81 (by decide +kernel) ?_
                refine V_goto (tgt := 86) d_Mo_transformer_82 (by decide) ?_
                refine V_iastore (j := i) d_Mo_transformer_86 rfl hOn rfl (by omega) (by omega) (fun G4 hOnz ho4 => ?_)
                have hOn : G4 (m + 9) = some (.inl (0, 5, .inl (fun j0 => (upd on i ((-1))) j0))) := hOnz
                have hH := (ho4 _ (by omega)).trans hH
                have hTk := (ho4 _ (by omega)).trans hTk
                have hKd := (ho4 _ (by omega)).trans hKd
                have hVl := (ho4 _ (by omega)).trans hVl
                have hRp := (ho4 _ (by omega)).trans hRp
                refine V_aload_n d_Mo_transformer_87 rfl ?_
                refine V_getf d_Mo_transformer_88 f_Mo_42 hH rfl ?_
                refine V_iload d_Mo_transformer_91 rfl ?_
                refine V_iload d_Mo_transformer_93 rfl ?_
                refine V_bastore (j := i) d_Mo_transformer_95 rfl hRp rfl (by omega) (by omega) (by first | exact pB_or _ | exact Or.inl rfl | exact Or.inr rfl) (fun G5 hRpz ho5 => ?_)
                have hRp : G5 (m + 10) = some (.inl (1, 5, .inl (fun j0 => pB ((va_up rp i rb) j0 = true)))) := by rw [hRpz, upd_pB]
                have hH := (ho5 _ (by omega)).trans hH
                have hTk := (ho5 _ (by omega)).trans hTk
                have hKd := (ho5 _ (by omega)).trans hKd
                have hVl := (ho5 _ (by omega)).trans hVl
                have hOn := (ho5 _ (by omega)).trans hOn
                refine V_iload d_Mo_transformer_96 rfl ?_
                exact V_ireturn d_Mo_transformer_98 rfl (by first | exact absurd hb6 (by omega) | exact hS i (by omega) (by simpa using hb16) hv _ hTk hKd hVl (by rw [show onI y = -1 from pI_f (fun ⟨j, hj, e⟩ => by first | exact nI_out (n := 6) (by omega) hj (Or.inl hb73) e | exact nI_out (n := 6) (by omega) hj (Or.inr ((nI_lts (k := 5) (by omega)).mp (Int32.not_le.mp hb78))) e)]; exact hOn) hRp (fun q hq => by rw [ho5 q (by omega), ho4 q (by omega), ho3 q (by omega), ho2 q (by omega), ho1 q (by omega)]))
          · refine V_iconst (v := (-1)) d_Mo_transformer_40 (by decide +kernel) ?_
            exact V_ireturn d_Mo_transformer_41 rfl (by first | exact hN (fun j hj => hv j (by omega)) | exact absurd hk (by omega))
      · refine V_aload_n d_Mo_transformer_9 rfl ?_
        refine V_getf d_Mo_transformer_10 f_Mo_29 hH rfl ?_
        refine V_iload d_Mo_transformer_13 rfl ?_
        refine V_baload (j := i) d_Mo_transformer_15 rfl hTk rfl (by omega) (by omega) ?_
        show pV Γ _ _ _ (.int (pB (tk i = true)) :: _) _ _ _ _ _
        refine V_if_eqB (tgt := 25) d_Mo_transformer_16 (by decide) (fun hb16 => ?_) (fun hb16 => ?_)
        · refine V_iload d_Mo_transformer_25 rfl ?_
          refine V_iconst (v := nI 5) d_Mo_transformer_27 (by decide +kernel) ?_
          refine V_icmp_eqN (tgt := 40) d_Mo_transformer_28 (by decide) (by omega) (by omega) (fun hb28 => ?_) (fun hb28 => ?_)
          · refine V_iconst (v := (-1)) d_Mo_transformer_40 (by decide +kernel) ?_
            exact V_ireturn d_Mo_transformer_41 rfl (by first | exact hN (fun j hj => hv j (by omega)) | exact absurd hk (by omega))
          · refine V_iload_n d_Mo_transformer_31 rfl ?_
            refine V_if_ltN (tgt := 40) d_Mo_transformer_32 (by decide) (by omega) ?_
            refine V_iload_n d_Mo_transformer_35 rfl ?_
            refine V_iconst (v := nI 4) d_Mo_transformer_36 (by decide +kernel) ?_
            refine V_icmp_leN (tgt := 42) d_Mo_transformer_37 (by decide) (by omega) (by omega) (fun hb37 => ?_) (fun hb37 => ?_)
            · refine V_aload_n d_Mo_transformer_42 rfl ?_
              refine V_getf d_Mo_transformer_43 f_Mo_29 hH rfl ?_
              refine V_iload d_Mo_transformer_46 rfl ?_
              refine V_iconst (v := nI 1) d_Mo_transformer_48 (by decide +kernel) ?_
              refine V_bastore (j := i) d_Mo_transformer_49 rfl hTk rfl (by omega) (by omega) (by first | exact pB_or _ | exact Or.inl rfl | exact Or.inr rfl) (fun G1 hTkz ho1 => ?_)
              have hTk : G1 (m + 6) = some (.inl (1, 5, .inl (fun j0 => pB ((va_up tk i true) j0 = true)))) := by rw [hTkz, upd_p1]
              have hH := (ho1 _ (by omega)).trans hH
              have hKd := (ho1 _ (by omega)).trans hKd
              have hVl := (ho1 _ (by omega)).trans hVl
              have hOn := (ho1 _ (by omega)).trans hOn
              have hRp := (ho1 _ (by omega)).trans hRp
              refine V_aload_n d_Mo_transformer_50 rfl ?_
              refine V_getf d_Mo_transformer_51 f_Mo_33 hH rfl ?_
              refine V_iload d_Mo_transformer_54 rfl ?_
              refine V_iload_n d_Mo_transformer_56 rfl ?_
              refine V_iastore (j := i) d_Mo_transformer_57 rfl hKd rfl (by omega) (by omega) (fun G2 hKdz ho2 => ?_)
              have hKd : G2 (m + 7) = some (.inl (0, 5, .inl (fun j0 => nI ((va_up kd i kd0) j0)))) := by rw [hKdz, upd_nI]
              have hH := (ho2 _ (by omega)).trans hH
              have hTk := (ho2 _ (by omega)).trans hTk
              have hVl := (ho2 _ (by omega)).trans hVl
              have hOn := (ho2 _ (by omega)).trans hOn
              have hRp := (ho2 _ (by omega)).trans hRp
              refine V_aload_n d_Mo_transformer_58 rfl ?_
              refine V_getf d_Mo_transformer_59 f_Mo_36 hH rfl ?_
              refine V_iload d_Mo_transformer_62 rfl ?_
              refine V_iload_n d_Mo_transformer_64 rfl ?_
              refine V_iastore (j := i) d_Mo_transformer_65 rfl hVl rfl (by omega) (by omega) (fun G3 hVlz ho3 => ?_)
              have hVl : G3 (m + 8) = some (.inl (0, 5, .inl (fun j0 => (upd vl i v) j0))) := hVlz
              have hH := (ho3 _ (by omega)).trans hH
              have hTk := (ho3 _ (by omega)).trans hTk
              have hKd := (ho3 _ (by omega)).trans hKd
              have hOn := (ho3 _ (by omega)).trans hOn
              have hRp := (ho3 _ (by omega)).trans hRp
              refine V_aload_n d_Mo_transformer_66 rfl ?_
              refine V_getf d_Mo_transformer_67 f_Mo_39 hH rfl ?_
              refine V_iload d_Mo_transformer_70 rfl ?_
              refine V_iload_n d_Mo_transformer_72 rfl ?_
              refine V_if_lt (tgt := 81) d_Mo_transformer_73 (by decide) (fun hb73 => ?_) (fun hb73 => ?_)
              · refine V_iconst (v := (-1)) d_Mo_transformer_81 (by decide +kernel) ?_
                refine V_goto (tgt := 86) d_Mo_transformer_82 (by decide) ?_
                refine V_iastore (j := i) d_Mo_transformer_86 rfl hOn rfl (by omega) (by omega) (fun G4 hOnz ho4 => ?_)
                have hOn : G4 (m + 9) = some (.inl (0, 5, .inl (fun j0 => (upd on i ((-1))) j0))) := hOnz
                have hH := (ho4 _ (by omega)).trans hH
                have hTk := (ho4 _ (by omega)).trans hTk
                have hKd := (ho4 _ (by omega)).trans hKd
                have hVl := (ho4 _ (by omega)).trans hVl
                have hRp := (ho4 _ (by omega)).trans hRp
                refine V_aload_n d_Mo_transformer_87 rfl ?_
                refine V_getf d_Mo_transformer_88 f_Mo_42 hH rfl ?_
                refine V_iload d_Mo_transformer_91 rfl ?_
                refine V_iload d_Mo_transformer_93 rfl ?_
                refine V_bastore (j := i) d_Mo_transformer_95 rfl hRp rfl (by omega) (by omega) (by first | exact pB_or _ | exact Or.inl rfl | exact Or.inr rfl) (fun G5 hRpz ho5 => ?_)
                have hRp : G5 (m + 10) = some (.inl (1, 5, .inl (fun j0 => pB ((va_up rp i rb) j0 = true)))) := by rw [hRpz, upd_pB]
                have hH := (ho5 _ (by omega)).trans hH
                have hTk := (ho5 _ (by omega)).trans hTk
                have hKd := (ho5 _ (by omega)).trans hKd
                have hVl := (ho5 _ (by omega)).trans hVl
                have hOn := (ho5 _ (by omega)).trans hOn
                refine V_iload d_Mo_transformer_96 rfl ?_
                exact V_ireturn d_Mo_transformer_98 rfl (by first | exact absurd hb6 (by omega) | exact hS i (by omega) (by simpa using hb16) hv _ hTk hKd hVl (by rw [show onI y = -1 from pI_f (fun ⟨j, hj, e⟩ => by first | exact nI_out (n := 6) (by omega) hj (Or.inl hb73) e | exact nI_out (n := 6) (by omega) hj (Or.inr ((nI_lts (k := 5) (by omega)).mp (Int32.not_le.mp hb78))) e)]; exact hOn) hRp (fun q hq => by rw [ho5 q (by omega), ho4 q (by omega), ho3 q (by omega), ho2 q (by omega), ho1 q (by omega)]))
              · refine V_iload_n d_Mo_transformer_76 rfl ?_
                refine V_iconst (v := nI 5) d_Mo_transformer_77 (by decide +kernel) ?_
                refine V_icmp_le (tgt := 85) d_Mo_transformer_78 (by decide) (fun hb78 => ?_) (fun hb78 => ?_)
                · refine V_iload_n d_Mo_transformer_85 rfl ?_
                  refine V_iastore (j := i) d_Mo_transformer_86 rfl hOn rfl (by omega) (by omega) (fun G4 hOnz ho4 => ?_)
                  have hOn : G4 (m + 9) = some (.inl (0, 5, .inl (fun j0 => (upd on i y) j0))) := hOnz
                  have hH := (ho4 _ (by omega)).trans hH
                  have hTk := (ho4 _ (by omega)).trans hTk
                  have hKd := (ho4 _ (by omega)).trans hKd
                  have hVl := (ho4 _ (by omega)).trans hVl
                  have hRp := (ho4 _ (by omega)).trans hRp
                  refine V_aload_n d_Mo_transformer_87 rfl ?_
                  refine V_getf d_Mo_transformer_88 f_Mo_42 hH rfl ?_
                  refine V_iload d_Mo_transformer_91 rfl ?_
                  refine V_iload d_Mo_transformer_93 rfl ?_
                  refine V_bastore (j := i) d_Mo_transformer_95 rfl hRp rfl (by omega) (by omega) (by first | exact pB_or _ | exact Or.inl rfl | exact Or.inr rfl) (fun G5 hRpz ho5 => ?_)
                  have hRp : G5 (m + 10) = some (.inl (1, 5, .inl (fun j0 => pB ((va_up rp i rb) j0 = true)))) := by rw [hRpz, upd_pB]
                  have hH := (ho5 _ (by omega)).trans hH
                  have hTk := (ho5 _ (by omega)).trans hTk
                  have hKd := (ho5 _ (by omega)).trans hKd
                  have hVl := (ho5 _ (by omega)).trans hVl
                  have hOn := (ho5 _ (by omega)).trans hOn
                  refine V_iload d_Mo_transformer_96 rfl ?_
                  exact V_ireturn d_Mo_transformer_98 rfl (by first | exact absurd hb6 (by omega) | exact hS i (by omega) (by simpa using hb16) hv _ hTk hKd hVl (by rw [show onI y = y from pI_t (((pk_ix y (n := 6) (by omega)).resolve_left hb73).resolve_left (fun e => absurd hb78 (Int32.not_le.mpr ((nI_lts (k := 5) (by omega)).mpr e))))]; exact hOn) hRp (fun q hq => by rw [ho5 q (by omega), ho4 q (by omega), ho3 q (by omega), ho2 q (by omega), ho1 q (by omega)]))
                · refine V_iconst (v := (-1)) d_Mo_transformer_81 (by decide +kernel) ?_
                  refine V_goto (tgt := 86) d_Mo_transformer_82 (by decide) ?_
                  refine V_iastore (j := i) d_Mo_transformer_86 rfl hOn rfl (by omega) (by omega) (fun G4 hOnz ho4 => ?_)
                  have hOn : G4 (m + 9) = some (.inl (0, 5, .inl (fun j0 => (upd on i ((-1))) j0))) := hOnz
                  have hH := (ho4 _ (by omega)).trans hH
                  have hTk := (ho4 _ (by omega)).trans hTk
                  have hKd := (ho4 _ (by omega)).trans hKd
                  have hVl := (ho4 _ (by omega)).trans hVl
                  have hRp := (ho4 _ (by omega)).trans hRp
                  refine V_aload_n d_Mo_transformer_87 rfl ?_
                  refine V_getf d_Mo_transformer_88 f_Mo_42 hH rfl ?_
                  refine V_iload d_Mo_transformer_91 rfl ?_
                  refine V_iload d_Mo_transformer_93 rfl ?_
                  refine V_bastore (j := i) d_Mo_transformer_95 rfl hRp rfl (by omega) (by omega) (by first | exact pB_or _ | exact Or.inl rfl | exact Or.inr rfl) (fun G5 hRpz ho5 => ?_)
                  have hRp : G5 (m + 10) = some (.inl (1, 5, .inl (fun j0 => pB ((va_up rp i rb) j0 = true)))) := by rw [hRpz, upd_pB]
                  have hH := (ho5 _ (by omega)).trans hH
                  have hTk := (ho5 _ (by omega)).trans hTk
                  have hKd := (ho5 _ (by omega)).trans hKd
                  have hVl := (ho5 _ (by omega)).trans hVl
                  have hOn := (ho5 _ (by omega)).trans hOn
                  refine V_iload d_Mo_transformer_96 rfl ?_
                  exact V_ireturn d_Mo_transformer_98 rfl (by first | exact absurd hb6 (by omega) | exact hS i (by omega) (by simpa using hb16) hv _ hTk hKd hVl (by rw [show onI y = -1 from pI_f (fun ⟨j, hj, e⟩ => by first | exact nI_out (n := 6) (by omega) hj (Or.inl hb73) e | exact nI_out (n := 6) (by omega) hj (Or.inr ((nI_lts (k := 5) (by omega)).mp (Int32.not_le.mp hb78))) e)]; exact hOn) hRp (fun q hq => by rw [ho5 q (by omega), ho4 q (by omega), ho3 q (by omega), ho2 q (by omega), ho1 q (by omega)]))
            · refine V_iconst (v := (-1)) d_Mo_transformer_40 (by decide +kernel) ?_
              exact V_ireturn d_Mo_transformer_41 rfl (by first | exact hN (fun j hj => hv j (by omega)) | exact absurd hk (by omega))
        · refine V_iincN d_Mo_transformer_19 rfl ?_
          show pV Γ _ _ [some (.ref m), some (.int (nI kd0)), some (.int v), some (.int y), some (.int (pB (rb = true))), some (.int (nI (i + 1)))] _ _ _ _ _ _
          refine V_goto (tgt := 3) d_Mo_transformer_22 (by decide) ?_
          exact ih (i + 1) (by omega) (by omega) (fun j hj => (Nat.lt_or_ge j i).elim (fun q => hv j q) (fun q => by rw [show j = i by omega]; first | exact hb16 | simpa using hb16))
  refine V_iconst (v := nI 0) d_Mo_transformer_0 (by decide +kernel) ?_
  refine V_istore d_Mo_transformer_1 (Nat.le_of_ble_eq_true rfl) ?_
  show pV Γ _ _ [some (.ref m), some (.int (nI kd0)), some (.int v), some (.int y), some (.int (pB (rb = true))), some (.int (nI 0))] _ _ _ _ _ _
  exact loop 6 0 (by omega) (by omega) (fun j hj => absurd hj (by omega))
set_option maxHeartbeats 1000000 in
theorem c_Mo_transformerF {Γ : pmE} {G : pmG} {n : Nat} {Q : pmPost} {m : Nat} {ch ba : Int32} {tk : Nat → Bool} {x v y r : Int32} (hH : G m = some (.inr (kMo, moFs m ch ba))) (hTk : G (m + 6) = some (.inl (1, 5, .inl (fun j => pB (tk j = true))))) (hx : x < 0 ∨ nI 4 < x) (hN : Q (some (.int (-1))) n G) : pV Γ m_Mo_transformer 0 [some (.ref m), some (.int x), some (.int v), some (.int y), some (.int r), none] [] n G 0 0 Q := by
  have loop : ∀ (d i : Nat), i ≤ 5 → 5 - i < d → pV Γ m_Mo_transformer 3 [some (.ref m), some (.int x), some (.int v), some (.int y), some (.int r), some (.int (nI i))] [] n G 0 0 Q := by
    intro d
    induction d with
    | zero => intro i _ hd; exact absurd hd (by omega)
    | succ d ih =>
      intro i hi hd 
      refine V_iload d_Mo_transformer_3 rfl ?_
      refine V_iconst (v := nI 5) d_Mo_transformer_5 (by decide +kernel) ?_
      refine V_icmp_geN (tgt := 25) d_Mo_transformer_6 (by decide) (by omega) (by omega) (fun hb6 => ?_) (fun hb6 => ?_)
      · refine V_iload d_Mo_transformer_25 rfl ?_
        refine V_iconst (v := nI 5) d_Mo_transformer_27 (by decide +kernel) ?_
        refine V_icmp_eqN (tgt := 40) d_Mo_transformer_28 (by decide) (by omega) (by omega) (fun hb28 => ?_) (fun hb28 => ?_)
        · refine V_iconst (v := (-1)) d_Mo_transformer_40 (by decide +kernel) ?_
          exact V_ireturn d_Mo_transformer_41 rfl (hN)
        · refine V_iload_n d_Mo_transformer_31 rfl ?_
          refine V_if_lt (tgt := 40) d_Mo_transformer_32 (by decide) (fun hb32 => ?_) (fun hb32 => ?_)
          · refine V_iconst (v := (-1)) d_Mo_transformer_40 (by decide +kernel) ?_
            exact V_ireturn d_Mo_transformer_41 rfl (hN)
          · refine V_iload_n d_Mo_transformer_35 rfl ?_
            refine V_iconst (v := nI 4) d_Mo_transformer_36 (by decide +kernel) ?_
            refine V_icmp_le (tgt := 42) d_Mo_transformer_37 (by decide) (fun hb37 => ?_) (fun hb37 => ?_)
            · exact absurd hx (fun e => e.elim hb32 (fun e => absurd hb37 (Int32.not_le.mpr e)))
            · refine V_iconst (v := (-1)) d_Mo_transformer_40 (by decide +kernel) ?_
              exact V_ireturn d_Mo_transformer_41 rfl (hN)
      · refine V_aload_n d_Mo_transformer_9 rfl ?_
        refine V_getf d_Mo_transformer_10 f_Mo_29 hH rfl ?_
        refine V_iload d_Mo_transformer_13 rfl ?_
        refine V_baload (j := i) d_Mo_transformer_15 rfl hTk rfl (by omega) (by omega) ?_
        show pV Γ _ _ _ (.int (pB (tk i = true)) :: _) _ _ _ _ _
        refine V_if_eqB (tgt := 25) d_Mo_transformer_16 (by decide) (fun hb16 => ?_) (fun hb16 => ?_)
        · refine V_iload d_Mo_transformer_25 rfl ?_
          refine V_iconst (v := nI 5) d_Mo_transformer_27 (by decide +kernel) ?_
          refine V_icmp_eqN (tgt := 40) d_Mo_transformer_28 (by decide) (by omega) (by omega) (fun hb28 => ?_) (fun hb28 => ?_)
          · refine V_iconst (v := (-1)) d_Mo_transformer_40 (by decide +kernel) ?_
            exact V_ireturn d_Mo_transformer_41 rfl (hN)
          · refine V_iload_n d_Mo_transformer_31 rfl ?_
            refine V_if_lt (tgt := 40) d_Mo_transformer_32 (by decide) (fun hb32 => ?_) (fun hb32 => ?_)
            · refine V_iconst (v := (-1)) d_Mo_transformer_40 (by decide +kernel) ?_
              exact V_ireturn d_Mo_transformer_41 rfl (hN)
            · refine V_iload_n d_Mo_transformer_35 rfl ?_
              refine V_iconst (v := nI 4) d_Mo_transformer_36 (by decide +kernel) ?_
              refine V_icmp_le (tgt := 42) d_Mo_transformer_37 (by decide) (fun hb37 => ?_) (fun hb37 => ?_)
              · exact absurd hx (fun e => e.elim hb32 (fun e => absurd hb37 (Int32.not_le.mpr e)))
              · refine V_iconst (v := (-1)) d_Mo_transformer_40 (by decide +kernel) ?_
                exact V_ireturn d_Mo_transformer_41 rfl (hN)
        · refine V_iincN d_Mo_transformer_19 rfl ?_
          show pV Γ _ _ [some (.ref m), some (.int x), some (.int v), some (.int y), some (.int r), some (.int (nI (i + 1)))] _ _ _ _ _ _
          refine V_goto (tgt := 3) d_Mo_transformer_22 (by decide) ?_
          exact ih (i + 1) (by omega) (by omega)
  refine V_iconst (v := nI 0) d_Mo_transformer_0 (by decide +kernel) ?_
  refine V_istore d_Mo_transformer_1 (Nat.le_of_ble_eq_true rfl) ?_
  show pV Γ _ _ [some (.ref m), some (.int x), some (.int v), some (.int y), some (.int r), some (.int (nI 0))] _ _ _ _ _ _
  exact loop 6 0 (by omega) (by omega)
set_option maxHeartbeats 1000000 in
theorem c_Mo_remove {Γ : pmE} {G : pmG} {n : Nat} {Q : pmPost} {m : Nat} {ch ba : Int32} {tk : Nat → Bool} {i : Nat} (hH : G m = some (.inr (kMo, moFs m ch ba))) (hTk : G (m + 6) = some (.inl (1, 5, .inl (fun j => pB (tk j = true))))) (hi : i < 5) (hN : tk i = false → Q (some (.int (nI 0))) n G) (hS : tk i = true → ∀ G', G' (m + 6) = some (.inl (1, 5, .inl (fun j => pB (va_up tk i false j = true)))) → (∀ q, q ≠ m + 6 → G' q = G q) → Q (some (.int (nI 1))) n G') : pV Γ m_Mo_remove 0 [some (.ref m), some (.int (nI i))] [] n G 0 0 Q := by
  refine V_iload_n d_Mo_remove_0 rfl ?_
  refine V_if_ltN (tgt := 18) d_Mo_remove_1 (by decide) (by omega) ?_
  refine V_iload_n d_Mo_remove_4 rfl ?_
  refine V_iconst (v := nI 4) d_Mo_remove_5 (by decide +kernel) ?_
  refine V_icmp_gtN (tgt := 18) d_Mo_remove_6 (by decide) (by omega) (by omega) (fun hb6 => ?_) (fun hb6 => ?_)
  · refine V_iconst (v := nI 0) d_Mo_remove_18 (by decide +kernel) ?_
    exact V_zreturn d_Mo_remove_19 rfl (by first | exact pB_or _ | exact Or.inl rfl | exact Or.inr rfl) (by first | exact hN (by simpa using hb15) | exact absurd hb6 (by omega))
  · refine V_aload_n d_Mo_remove_9 rfl ?_
    refine V_getf d_Mo_remove_10 f_Mo_29 hH rfl ?_
    refine V_iload_n d_Mo_remove_13 rfl ?_
    refine V_baload (j := i) d_Mo_remove_14 rfl hTk rfl (by omega) (by omega) ?_
    show pV Γ _ _ _ (.int (pB (tk i = true)) :: _) _ _ _ _ _
    refine V_if_neB (tgt := 20) d_Mo_remove_15 (by decide) (fun hb15 => ?_) (fun hb15 => ?_)
    · refine V_aload_n d_Mo_remove_20 rfl ?_
      refine V_getf d_Mo_remove_21 f_Mo_29 hH rfl ?_
      refine V_iload_n d_Mo_remove_24 rfl ?_
      refine V_iconst (v := nI 0) d_Mo_remove_25 (by decide +kernel) ?_
      refine V_bastore (j := i) d_Mo_remove_26 rfl hTk rfl (by omega) (by omega) (by first | exact pB_or _ | exact Or.inl rfl | exact Or.inr rfl) (fun G1 hTkz ho1 => ?_)
      have hTk : G1 (m + 6) = some (.inl (1, 5, .inl (fun j0 => pB ((va_up tk i false) j0 = true)))) := by rw [hTkz, upd_p0]
      have hH := (ho1 _ (by omega)).trans hH
      refine V_iconst (v := nI 1) d_Mo_remove_27 (by decide +kernel) ?_
      exact V_zreturn d_Mo_remove_28 rfl (by first | exact pB_or _ | exact Or.inl rfl | exact Or.inr rfl) (hS hb15 _ hTk (fun q hq => by rw [ho1 q (by omega)]))
    · refine V_iconst (v := nI 0) d_Mo_remove_18 (by decide +kernel) ?_
      exact V_zreturn d_Mo_remove_19 rfl (by first | exact pB_or _ | exact Or.inl rfl | exact Or.inr rfl) (by first | exact hN (by simpa using hb15) | exact absurd hb6 (by omega))
theorem c_Mo_removeF {Γ : pmE} {G : pmG} {n : Nat} {Q : pmPost} {m : Nat} {x : Int32} (hx : x < 0 ∨ nI 5 ≤ x) (hN : Q (some (.int (nI 0))) n G) : pV Γ m_Mo_remove 0 [some (.ref m), some (.int x)] [] n G 0 0 Q := by
  refine V_iload_n d_Mo_remove_0 rfl ?_
  refine V_if_lt (tgt := 18) d_Mo_remove_1 (by decide) (fun hb1 => ?_) (fun hb1 => ?_)
  · refine V_iconst (v := nI 0) d_Mo_remove_18 (by decide +kernel) ?_
    exact V_zreturn d_Mo_remove_19 rfl (by first | exact pB_or _ | exact Or.inl rfl | exact Or.inr rfl) (hN)
  · refine V_iload_n d_Mo_remove_4 rfl ?_
    refine V_iconst (v := nI 4) d_Mo_remove_5 (by decide +kernel) ?_
    refine V_icmp_gt (tgt := 18) d_Mo_remove_6 (by decide) (fun hb6 => ?_) (fun hb6 => ?_)
    · refine V_iconst (v := nI 0) d_Mo_remove_18 (by decide +kernel) ?_
      exact V_zreturn d_Mo_remove_19 rfl (by first | exact pB_or _ | exact Or.inl rfl | exact Or.inr rfl) (hN)
    · exact absurd hx (fun e => e.elim hb1 (fun e => hb6 ((nI_lts (k := 4) (by omega)).mpr e)))
set_option maxHeartbeats 1000000 in
theorem c_Mo_queue {Γ : pmE} {G : pmG} {n : Nat} {Q : pmPost} {m : Nat} {ch : Int32} {nb : Nat} {f : Nat → Int32} {cu : Nat → Nat} {me : Nat → Int32} {x : Int32} (hH : G m = some (.inr (kMo, moFs m ch (nI nb)))) (hF : G (m + 1) = some (.inl (0, 4387, .inl f))) (hCu : G (m + 2) = some (.inl (0, 6, .inl (fun j => nI (cu j))))) (hMe : G (m + 11) = some (.inl (0, 3, .inl me))) (hcu : ∀ c, c < 6 → cu c < 41) (hnb : nb ≤ 3) (hN : ((¬ ∃ c, c < 6 ∧ x = nI c ∧ 0 < cu c) ∨ nb = 3 ∨ ∃ i, i < nb ∧ me i = x) → Q (some (.int (nI 0))) n G) (hS : (∃ c, c < 6 ∧ x = nI c ∧ 0 < cu c) → nb < 3 → (∀ i, i < nb → me i ≠ x) → ∀ G' g, G' m = some (.inr (kMo, moFs m ch (nI (nb + 1)))) → G' (m + 1) = some (.inl (0, 4387, .inl g)) → (∀ k, k < 107 → g (107 * (7 + nb) + k) = f (107 * 0 + k)) → (∀ x, (x < 107 * (7 + nb) ∨ 107 * (7 + nb) + 107 ≤ x) → g x = f x) → G' (m + 11) = some (.inl (0, 3, .inl (upd me nb x))) → (∀ q, q ≠ m → q ≠ m + 1 → q ≠ m + 11 → G' q = G q) → Q (some (.int (nI 1))) n G') : pV Γ m_Mo_queue 0 [some (.ref m), some (.int x), none] [] n G 0 0 Q := by
  refine V_aload_n d_Mo_queue_0 rfl ?_
  refine V_iload_n d_Mo_queue_1 rfl ?_
  refine V_callV (As := [.int x]) (rest := []) (lo' := [some (.ref m), some (.int x)]) (bc1 := 0) (bs1 := 0) (bc' := 0) (bs' := 0) d_Mo_queue_2 k_Mo_queue_77 hH rfl rfl rfl rfl (by rfl) (by rfl) ?_
  refine c_Mo_loaded hH hCu hcu ?_
  show pV Γ m_Mo_queue 5 [some (.ref m), some (.int x), none] [.int (pB (∃ c, c < 6 ∧ x = nI c ∧ 0 < cu c))] _ G 0 0 Q
  refine V_if_eqB (tgt := 16) d_Mo_queue_5 (by decide) (fun hb5 => ?_) (fun hb5 => ?_)
  · refine V_iconst (v := nI 0) d_Mo_queue_16 (by decide +kernel) ?_
    exact V_zreturn d_Mo_queue_17 rfl (by first | exact pB_or _ | exact Or.inl rfl | exact Or.inr rfl) (by first | exact hN (Or.inl hb5) | exact hN (Or.inr (Or.inl hb13)))
  · refine V_aload_n d_Mo_queue_8 rfl ?_
    refine V_getf d_Mo_queue_9 f_Mo_140 hH rfl ?_
    refine V_iconst (v := nI 3) d_Mo_queue_12 (by decide +kernel) ?_
    refine V_icmp_neN (tgt := 18) d_Mo_queue_13 (by decide) (by omega) (by omega) (fun hb13 => ?_) (fun hb13 => ?_)
    · refine V_iconst (v := nI 0) d_Mo_queue_18 (by decide +kernel) ?_
      refine V_istore_n d_Mo_queue_19 (Nat.le_of_ble_eq_true rfl) ?_
      show pV Γ _ _ [some (.ref m), some (.int x), some (.int (nI 0))] _ _ _ _ _ _
      have hl0 := hb5
      have loop : ∀ (d i : Nat), i ≤ nb → nb - i < d → (∀ j, j < i → me j ≠ x) → pV Γ m_Mo_queue 20 [some (.ref m), some (.int x), some (.int (nI i))] [] n G 0 0 Q := by
        intro d
        induction d with
        | zero => intro i _ hd; exact absurd hd (by omega)
        | succ d ih =>
          intro i hi hd hv
          refine V_iload_n d_Mo_queue_20 rfl ?_
          refine V_aload_n d_Mo_queue_21 rfl ?_
          refine V_getf d_Mo_queue_22 f_Mo_140 hH rfl ?_
          refine V_icmp_geN (tgt := 46) d_Mo_queue_25 (by decide) (by omega) (by omega) (fun hb25 => ?_) (fun hb25 => ?_)
          · refine V_aload_n d_Mo_queue_46 rfl ?_
            refine V_iconst (v := nI 0) d_Mo_queue_47 (by decide +kernel) ?_
            refine V_bipush (v := nI 7) d_Mo_queue_48 (by decide +kernel) ?_
            refine V_aload_n d_Mo_queue_50 rfl ?_
            refine V_getf d_Mo_queue_51 f_Mo_140 hH rfl ?_
            refine V_iaddN d_Mo_queue_54 ?_
            refine V_callV (As := [.int (nI 0), .int (nI (7 + nb))]) (rest := []) (lo' := [some (.ref m), some (.int (nI 0)), some (.int (nI (7 + nb))), none]) (bc1 := 0) (bs1 := 0) (bc' := 0) (bs' := 0) d_Mo_queue_55 k_Mo_queue_81 hH rfl rfl rfl rfl (by rfl) (by rfl) ?_
            refine c_Mo_transcribe hH hF (by omega) (by omega) (by omega) (fun G1 g hF1 hc1 hx1 ho1 => ?_)
            have hF := hF1
            have hH := (ho1 _ (by omega)).trans hH
            have hMe := (ho1 _ (by omega)).trans hMe
            show pV Γ m_Mo_queue 58 [some (.ref m), some (.int x), some (.int (nI i))] [] _ G1 0 0 Q
            refine V_aload_n d_Mo_queue_58 rfl ?_
            refine V_getf d_Mo_queue_59 f_Mo_45 hH rfl ?_
            refine V_aload_n d_Mo_queue_62 rfl ?_
            refine V_getf d_Mo_queue_63 f_Mo_140 hH rfl ?_
            refine V_iload_n d_Mo_queue_66 rfl ?_
            refine V_iastore (j := nb) d_Mo_queue_67 rfl hMe rfl (by omega) (by omega) (fun G2 hMez ho2 => ?_)
            have hMe : G2 (m + 11) = some (.inl (0, 3, .inl (fun j0 => (upd me nb x) j0))) := hMez
            have hH := (ho2 _ (by omega)).trans hH
            have hF := (ho2 _ (by omega)).trans hF
            refine V_aload_n d_Mo_queue_68 rfl ?_
            refine V_dup d_Mo_queue_69 rfl ?_
            refine V_getf d_Mo_queue_70 f_Mo_140 hH rfl ?_
            refine V_iconst (v := nI 1) d_Mo_queue_73 (by decide +kernel) ?_
            refine V_iaddN d_Mo_queue_74 ?_
            refine V_putf d_Mo_queue_75 f_Mo_140 p_Mo_140 hH rfl rfl rfl (fun G3 hHz ho3 => ?_)
            have hH : G3 m = some (.inr (kMo, [.ref (m + 1), .int ch, .ref (m + 2), .ref (m + 3), .ref (m + 4), .ref (m + 5), .ref (m + 6), .ref (m + 7), .ref (m + 8), .ref (m + 9), .ref (m + 10), .int (nI (nb + 1)), .ref (m + 11), .ref (m + 12), .ref (m + 13), .ref (m + 14), .ref (m + 15), .ref (m + 16), .ref (m + 17)])) := hHz
            have hF := (ho3 _ (by omega)).trans hF
            have hMe := (ho3 _ (by omega)).trans hMe
            refine V_iconst (v := nI 1) d_Mo_queue_78 (by decide +kernel) ?_
            exact V_zreturn d_Mo_queue_79 rfl (by first | exact pB_or _ | exact Or.inl rfl | exact Or.inr rfl) (hS hl0 (by omega) (fun j hj => hv j (by omega)) _ _ hH hF hc1 hx1 hMe (fun q h1 h2 h3 => by rw [ho3 q (by omega), ho2 q (by omega), ho1 q (by omega)]))
          · refine V_aload_n d_Mo_queue_28 rfl ?_
            refine V_getf d_Mo_queue_29 f_Mo_45 hH rfl ?_
            refine V_iload_n d_Mo_queue_32 rfl ?_
            refine V_iaload (j := i) d_Mo_queue_33 rfl hMe rfl (by omega) (by omega) ?_
            show pV Γ _ _ _ (.int ((me i)) :: _) _ _ _ _ _
            refine V_iload_n d_Mo_queue_34 rfl ?_
            refine V_icmp_ne (tgt := 40) d_Mo_queue_35 (by decide) (fun hb35 => ?_) (fun hb35 => ?_)
            · refine V_iincN d_Mo_queue_40 rfl ?_
              show pV Γ _ _ [some (.ref m), some (.int x), some (.int (nI (i + 1)))] _ _ _ _ _ _
              refine V_goto (tgt := 20) d_Mo_queue_43 (by decide) ?_
              exact ih (i + 1) (by omega) (by omega) (fun j hj => (Nat.lt_or_ge j i).elim (fun q => hv j q) (fun q => by rw [show j = i by omega]; exact hb35))
            · refine V_iconst (v := nI 0) d_Mo_queue_38 (by decide +kernel) ?_
              exact V_zreturn d_Mo_queue_39 rfl (by first | exact pB_or _ | exact Or.inl rfl | exact Or.inr rfl) (hN (Or.inr (Or.inr ⟨i, by omega, hb35⟩)))
      exact loop (nb + 1) 0 (by omega) (by omega) (fun j hj => absurd hj (by omega))
    · refine V_iconst (v := nI 0) d_Mo_queue_16 (by decide +kernel) ?_
      exact V_zreturn d_Mo_queue_17 rfl (by first | exact pB_or _ | exact Or.inl rfl | exact Or.inr rfl) (by first | exact hN (Or.inl hb5) | exact hN (Or.inr (Or.inl hb13)))
set_option maxHeartbeats 1000000 in
theorem c_Mo_result {Γ : pmE} {G : pmG} {n : Nat} {Q : pmPost} {m : Nat} {ch ba : Int32} {rs : Nat → Int32} {x : Int32} (hH : G m = some (.inr (kMo, moFs m ch ba))) (hRs : G (m + 17) = some (.inl (0, 3, .inl rs))) (hN : (¬ ∃ j, j < 3 ∧ x = nI j) → Q (some (.int (nI 0))) n G) (hS : ∀ t, t < 3 → x = nI t → Q (some (.int (rs t))) n G) : pV Γ m_Mo_result 0 [some (.ref m), some (.int x)] [] n G 0 0 Q := by
  refine V_iload_n d_Mo_result_0 rfl ?_
  refine V_callS (As := [.int x]) (rest := []) (lo' := [some (.int x)]) (bc1 := 0) (bs1 := 0) (bc' := 0) (bs' := 0) d_Mo_result_1 k_Mo_result_146 rfl rfl rfl rfl (by rfl) (by rfl) ?_
  refine c_Mo_isThread ?_
  show pV Γ m_Mo_result 4 [some (.ref m), some (.int x)] [.int (pB (∃ j, j < 3 ∧ x = nI j))] _ G 0 0 Q
  refine V_if_eqB (tgt := 16) d_Mo_result_4 (by decide) (fun hb4 => ?_) (fun hb4 => ?_)
  · refine V_iconst (v := nI 0) d_Mo_result_16 (by decide +kernel) ?_
    exact V_ireturn d_Mo_result_17 rfl (by first | exact hS t ht hx | exact hN hb4)
  · refine V_aload_n d_Mo_result_7 rfl ?_
    refine V_getf d_Mo_result_8 f_Mo_63 hH rfl ?_
    refine V_iload_n d_Mo_result_11 rfl ?_
    obtain ⟨t, ht, hx⟩ := hb4
    refine V_iaload (j := t) d_Mo_result_12 rfl hRs hx ht (by omega) ?_
    refine V_goto (tgt := 17) d_Mo_result_13 (by decide) ?_
    exact V_ireturn d_Mo_result_17 rfl (by first | exact hS t ht hx | exact hN hb4)
set_option maxHeartbeats 1000000 in
theorem c_Mo_edition {Γ : pmE} {G : pmG} {n : Nat} {Q : pmPost} {m : Nat} {ch ba : Int32} {cu : Nat → Nat} {nu : Nat → Nat} {x : Int32} (hH : G m = some (.inr (kMo, moFs m ch ba))) (hCu : G (m + 2) = some (.inl (0, 6, .inl (fun j => nI (cu j))))) (hNu : G (m + 3) = some (.inl (0, 6, .inl (fun j => nI (nu j))))) (hcu : ∀ c, c < 6 → cu c < 41) (hN : (¬ ∃ c, c < 6 ∧ x = nI c ∧ 0 < cu c) → Q (some (.int (nI 0))) n G) (hS : ∀ c, c < 6 → x = nI c → 0 < cu c → Q (some (.int (nI (nu c)))) n G) : pV Γ m_Mo_edition 0 [some (.ref m), some (.int x)] [] n G 0 0 Q := by
  refine V_aload_n d_Mo_edition_0 rfl ?_
  refine V_iload_n d_Mo_edition_1 rfl ?_
  refine V_callV (As := [.int x]) (rest := []) (lo' := [some (.ref m), some (.int x)]) (bc1 := 0) (bs1 := 0) (bc' := 0) (bs' := 0) d_Mo_edition_2 k_Mo_edition_77 hH rfl rfl rfl rfl (by rfl) (by rfl) ?_
  refine c_Mo_loaded hH hCu hcu ?_
  show pV Γ m_Mo_edition 5 [some (.ref m), some (.int x)] [.int (pB (∃ c, c < 6 ∧ x = nI c ∧ 0 < cu c))] _ G 0 0 Q
  refine V_if_eqB (tgt := 17) d_Mo_edition_5 (by decide) (fun hb5 => ?_) (fun hb5 => ?_)
  · refine V_iconst (v := nI 0) d_Mo_edition_17 (by decide +kernel) ?_
    exact V_ireturn d_Mo_edition_18 rfl (by first | exact hS c hc hx h0 | exact hN hb5)
  · refine V_aload_n d_Mo_edition_8 rfl ?_
    refine V_getf d_Mo_edition_9 f_Mo_20 hH rfl ?_
    refine V_iload_n d_Mo_edition_12 rfl ?_
    obtain ⟨c, hc, hx, h0⟩ := hb5
    refine V_iaload (j := c) d_Mo_edition_13 rfl hNu hx hc (by omega) ?_
    show pV Γ _ _ _ [.int (nI (nu c))] _ _ _ _ _
    refine V_goto (tgt := 18) d_Mo_edition_14 (by decide) ?_
    exact V_ireturn d_Mo_edition_18 rfl (by first | exact hS c hc hx h0 | exact hN hb5)
set_option maxHeartbeats 1000000 in
theorem c_Mo_frame {Γ : pmE} {G : pmG} {n : Nat} {Q : pmPost} {m : Nat} {ch ba : Int32} {dp : Nat → Nat} {fr : Nat → Nat} {no : Nat → Nat} {co : Nat → Nat} {x y : Int32} (hH : G m = some (.inr (kMo, moFs m ch ba))) (hDp : G (m + 12) = some (.inl (0, 3, .inl (fun j => nI (dp j))))) (hFr : G (m + 13) = some (.inl (0, 15, .inl (fun j => nI (fr j))))) (hNo : G (m + 4) = some (.inl (0, 41, .inl (fun j => nI (no j))))) (hCo : G (m + 5) = some (.inl (0, 41, .inl (fun j => nI (co j))))) (hdp : ∀ t, t < 3 → dp t ≤ 5) (hfr : ∀ q, q < 15 → fr q < 41) (hN : (¬ ∃ t k, t < 3 ∧ x = nI t ∧ y = nI k ∧ k < dp t) → Q (some (.int (-1))) n G) (hS : ∀ t k, t < 3 → x = nI t → y = nI k → k < dp t → Q (some (.int (nI (8 * no (fr (5 * t + k)) + co (fr (5 * t + k)))))) n G) : pV Γ m_Mo_frame 0 [some (.ref m), some (.int x), some (.int y), none] [] n G 0 0 Q := by
  refine V_iload_n d_Mo_frame_0 rfl ?_
  refine V_callS (As := [.int x]) (rest := []) (lo' := [some (.int x)]) (bc1 := 0) (bs1 := 0) (bc' := 0) (bs' := 0) d_Mo_frame_1 k_Mo_frame_146 rfl rfl rfl rfl (by rfl) (by rfl) ?_
  refine c_Mo_isThread ?_
  show pV Γ m_Mo_frame 4 [some (.ref m), some (.int x), some (.int y), none] [.int (pB (∃ j, j < 3 ∧ x = nI j))] _ G 0 0 Q
  refine V_if_eqB (tgt := 21) d_Mo_frame_4 (by decide) (fun hb4 => ?_) (fun hb4 => ?_)
  · refine V_iconst (v := (-1)) d_Mo_frame_21 (by decide +kernel) ?_
    exact V_ireturn d_Mo_frame_22 rfl (by first | exact hN (fun ⟨t', k', h1, h2, h3, h4⟩ => hb4 ⟨t', h1, h2⟩) | exact hN (fun ⟨t', k', h1, h2, h3, h4⟩ => by have := hdp t' h1; exact nI_out (n := dp t') (j := k') (by omega) h4 (Or.inl hb8) h3) | exact hN (fun ⟨t', k', h1, h2, h3, h4⟩ => by have e : t = t' := (nI_eq (by omega) (by omega)).mp (hx.symm.trans h2); subst e; exact nI_out (n := dp t) (j := k') (by omega) h4 (Or.inr (Int32.not_lt.mp hb18)) h3))
  · refine V_iload_n d_Mo_frame_7 rfl ?_
    refine V_if_lt (tgt := 21) d_Mo_frame_8 (by decide) (fun hb8 => ?_) (fun hb8 => ?_)
    · refine V_iconst (v := (-1)) d_Mo_frame_21 (by decide +kernel) ?_
      exact V_ireturn d_Mo_frame_22 rfl (by first | exact hN (fun ⟨t', k', h1, h2, h3, h4⟩ => hb4 ⟨t', h1, h2⟩) | exact hN (fun ⟨t', k', h1, h2, h3, h4⟩ => by have := hdp t' h1; exact nI_out (n := dp t') (j := k') (by omega) h4 (Or.inl hb8) h3) | exact hN (fun ⟨t', k', h1, h2, h3, h4⟩ => by have e : t = t' := (nI_eq (by omega) (by omega)).mp (hx.symm.trans h2); subst e; exact nI_out (n := dp t) (j := k') (by omega) h4 (Or.inr (Int32.not_lt.mp hb18)) h3))
    · refine V_iload_n d_Mo_frame_11 rfl ?_
      refine V_aload_n d_Mo_frame_12 rfl ?_
      refine V_getf d_Mo_frame_13 f_Mo_48 hH rfl ?_
      refine V_iload_n d_Mo_frame_16 rfl ?_
      obtain ⟨t, ht, hx⟩ := hb4
      have hd5 := hdp t ht
      refine V_iaload (j := t) d_Mo_frame_17 rfl hDp hx ht (by omega) ?_
      show pV Γ _ _ _ (.int (nI (dp t)) :: _) _ _ _ _ _
      refine V_icmp_lt (tgt := 23) d_Mo_frame_18 (by decide) (fun hb18 => ?_) (fun hb18 => ?_)
      · obtain ⟨k, hk, hy⟩ := ((pk_ix y (n := dp t) (by omega)).resolve_left hb8).resolve_left (fun e => absurd hb18 (Int32.not_lt.mpr e))
        subst hx
        subst hy
        show pV Γ _ _ [some (.ref m), some (.int (nI t)), some (.int (nI k)), none] _ _ _ _ _ _
        have hf9 := hfr (5 * t + k) (by omega)
        refine V_aload_n d_Mo_frame_23 rfl ?_
        refine V_getf d_Mo_frame_24 f_Mo_51 hH rfl ?_
        refine V_iconst (v := nI 5) d_Mo_frame_27 (by decide +kernel) ?_
        refine V_iload_n d_Mo_frame_28 rfl ?_
        refine V_imulN d_Mo_frame_29 ?_
        refine V_iload_n d_Mo_frame_30 rfl ?_
        refine V_iaddN d_Mo_frame_31 ?_
        refine V_iaload (j := 5 * t + k) d_Mo_frame_32 rfl hFr rfl (by omega) (by omega) ?_
        show pV Γ _ _ _ (.int (nI (fr (5 * t + k))) :: _) _ _ _ _ _
        refine V_istore_n d_Mo_frame_33 (Nat.le_of_ble_eq_true rfl) ?_
        show pV Γ _ _ [some (.ref m), some (.int (nI t)), some (.int (nI k)), some (.int (nI (fr (5 * t + k))))] _ _ _ _ _ _
        refine V_bipush (v := nI 8) d_Mo_frame_34 (by decide +kernel) ?_
        refine V_aload_n d_Mo_frame_36 rfl ?_
        refine V_getf d_Mo_frame_37 f_Mo_23 hH rfl ?_
        refine V_iload_n d_Mo_frame_40 rfl ?_
        refine V_iaload (j := fr (5 * t + k)) d_Mo_frame_41 rfl hNo rfl (by omega) (by omega) ?_
        show pV Γ _ _ _ (.int (nI (no (fr (5 * t + k)))) :: _) _ _ _ _ _
        refine V_imulN d_Mo_frame_42 ?_
        refine V_aload_n d_Mo_frame_43 rfl ?_
        refine V_getf d_Mo_frame_44 f_Mo_26 hH rfl ?_
        refine V_iload_n d_Mo_frame_47 rfl ?_
        refine V_iaload (j := fr (5 * t + k)) d_Mo_frame_48 rfl hCo rfl (by omega) (by omega) ?_
        show pV Γ _ _ _ (.int (nI (co (fr (5 * t + k)))) :: _) _ _ _ _ _
        refine V_iaddN d_Mo_frame_49 ?_
        exact V_ireturn d_Mo_frame_50 rfl (hS t k ht rfl rfl hk)
      · refine V_iconst (v := (-1)) d_Mo_frame_21 (by decide +kernel) ?_
        exact V_ireturn d_Mo_frame_22 rfl (by first | exact hN (fun ⟨t', k', h1, h2, h3, h4⟩ => hb4 ⟨t', h1, h2⟩) | exact hN (fun ⟨t', k', h1, h2, h3, h4⟩ => by have := hdp t' h1; exact nI_out (n := dp t') (j := k') (by omega) h4 (Or.inl hb8) h3) | exact hN (fun ⟨t', k', h1, h2, h3, h4⟩ => by have e : t = t' := (nI_eq (by omega) (by omega)).mp (hx.symm.trans h2); subst e; exact nI_out (n := dp t) (j := k') (by omega) h4 (Or.inr (Int32.not_lt.mp hb18)) h3))
set_option maxHeartbeats 1000000 in
theorem c_Mo_push {Γ : pmE} {G : pmG} {n : Nat} {Q : pmPost} {m : Nat} {ch ba : Int32} {f : Nat → Int32} {cu : Nat → Nat} {dp : Nat → Nat} {fr : Nat → Nat} {fm : Nat → Nat} {pl : Nat → Nat} {sm : Nat → Int32} {t c j : Nat} {y : Int32} {D : Dfn} (hH : G m = some (.inr (kMo, moFs m ch ba))) (hF : G (m + 1) = some (.inl (0, 4387, .inl f))) (hCu : G (m + 2) = some (.inl (0, 6, .inl (fun j => nI (cu j))))) (hDp : G (m + 12) = some (.inl (0, 3, .inl (fun j => nI (dp j))))) (hFr : G (m + 13) = some (.inl (0, 15, .inl (fun j => nI (fr j))))) (hFm : G (m + 14) = some (.inl (0, 15, .inl (fun j => nI (fm j))))) (hPl : G (m + 15) = some (.inl (0, 15, .inl (fun j => nI (pl j))))) (hSm : G (m + 16) = some (.inl (0, 15, .inl sm))) (ht : t < 3) (hd : dp t < 5) (hc : c < 6) (hc41 : cu c < 41) (hR : isRow f (cu c) D) (hj : dFst D y j) (hQ : ∀ G', G' (m + 12) = some (.inl (0, 3, .inl (fun i => nI (va_up dp t (dp t + 1) i)))) → G' (m + 13) = some (.inl (0, 15, .inl (fun i => nI (va_up fr (5 * t + dp t) (cu c) i)))) → G' (m + 14) = some (.inl (0, 15, .inl (fun i => nI (va_up fm (5 * t + dp t) (23 + 21 * j) i)))) → G' (m + 15) = some (.inl (0, 15, .inl (fun i => nI (va_up pl (5 * t + dp t) 0 i)))) → G' (m + 16) = some (.inl (0, 15, .inl (upd sm (5 * t + dp t) (nI 0)))) → (∀ q, (q < m + 12 ∨ m + 17 ≤ q) → G' q = G q) → Q none n G') : pV Γ m_Mo_push 0 [some (.ref m), some (.int (nI t)), some (.int (nI c)), some (.int y), none] [] n G 0 0 Q := by
  refine V_iconst (v := nI 5) d_Mo_push_0 (by decide +kernel) ?_
  refine V_iload_n d_Mo_push_1 rfl ?_
  refine V_imulN d_Mo_push_2 ?_
  refine V_aload_n d_Mo_push_3 rfl ?_
  refine V_getf d_Mo_push_4 f_Mo_48 hH rfl ?_
  refine V_iload_n d_Mo_push_7 rfl ?_
  refine V_iaload (j := t) d_Mo_push_8 rfl hDp rfl (by omega) (by omega) ?_
  show pV Γ _ _ _ (.int (nI (dp t)) :: _) _ _ _ _ _
  refine V_iaddN d_Mo_push_9 ?_
  refine V_istore d_Mo_push_10 (Nat.le_of_ble_eq_true rfl) ?_
  show pV Γ _ _ [some (.ref m), some (.int (nI t)), some (.int (nI c)), some (.int y), some (.int (nI (5 * t + (dp t))))] _ _ _ _ _ _
  refine V_aload_n d_Mo_push_12 rfl ?_
  refine V_getf d_Mo_push_13 f_Mo_51 hH rfl ?_
  refine V_iload d_Mo_push_16 rfl ?_
  refine V_aload_n d_Mo_push_18 rfl ?_
  refine V_getf d_Mo_push_19 f_Mo_17 hH rfl ?_
  refine V_iload_n d_Mo_push_22 rfl ?_
  refine V_iaload (j := c) d_Mo_push_23 rfl hCu rfl (by omega) (by omega) ?_
  show pV Γ _ _ _ (.int (nI (cu c)) :: _) _ _ _ _ _
  refine V_iastore (j := 5 * t + (dp t)) d_Mo_push_24 rfl hFr rfl (by omega) (by omega) (fun G1 hFrz ho1 => ?_)
  have hFr : G1 (m + 13) = some (.inl (0, 15, .inl (fun j0 => nI ((va_up fr (5 * t + (dp t)) (cu c)) j0)))) := by rw [hFrz, upd_nI]
  have hH := (ho1 _ (by omega)).trans hH
  have hF := (ho1 _ (by omega)).trans hF
  have hCu := (ho1 _ (by omega)).trans hCu
  have hDp := (ho1 _ (by omega)).trans hDp
  have hFm := (ho1 _ (by omega)).trans hFm
  have hPl := (ho1 _ (by omega)).trans hPl
  have hSm := (ho1 _ (by omega)).trans hSm
  refine V_aload_n d_Mo_push_25 rfl ?_
  refine V_getf d_Mo_push_26 f_Mo_54 hH rfl ?_
  refine V_iload d_Mo_push_29 rfl ?_
  refine V_aload_n d_Mo_push_31 rfl ?_
  refine V_aload_n d_Mo_push_32 rfl ?_
  refine V_getf d_Mo_push_33 f_Mo_17 hH rfl ?_
  refine V_iload_n d_Mo_push_36 rfl ?_
  refine V_iaload (j := c) d_Mo_push_37 rfl hCu rfl (by omega) (by omega) ?_
  show pV Γ _ _ _ (.int (nI (cu c)) :: _) _ _ _ _ _
  refine V_iload_n d_Mo_push_38 rfl ?_
  refine V_callV (As := [.int (nI (cu c)), .int y]) (rest := [.int (nI (5 * t + (dp t))), .ref (m + 14)]) (lo' := [some (.ref m), some (.int (nI (cu c))), some (.int y), none]) (bc1 := 0) (bs1 := 0) (bc' := 0) (bs' := 0) d_Mo_push_39 k_Mo_push_89 hH rfl rfl rfl rfl (by rfl) (by rfl) ?_
  refine c_Mo_find hH hF (by omega) hR (fun hn => absurd hj.2.1 (hn j hj.1)) (fun j' hj' => ?_)
  have e := dFst_u hj hj'
  subst e
  show pV Γ m_Mo_push 42 [some (.ref m), some (.int (nI t)), some (.int (nI c)), some (.int y), some (.int (nI (5 * t + (dp t))))] [.int (nI (23 + 21 * j)), .int (nI (5 * t + (dp t))), .ref (m + 14)] _ G1 0 0 Q
  refine V_iastore (j := 5 * t + (dp t)) d_Mo_push_42 rfl hFm rfl (by omega) (by omega) (fun G2 hFmz ho2 => ?_)
  have hFm : G2 (m + 14) = some (.inl (0, 15, .inl (fun j0 => nI ((va_up fm (5 * t + (dp t)) (23 + 21 * j)) j0)))) := by rw [hFmz, upd_nI]
  have hH := (ho2 _ (by omega)).trans hH
  have hF := (ho2 _ (by omega)).trans hF
  have hCu := (ho2 _ (by omega)).trans hCu
  have hDp := (ho2 _ (by omega)).trans hDp
  have hFr := (ho2 _ (by omega)).trans hFr
  have hPl := (ho2 _ (by omega)).trans hPl
  have hSm := (ho2 _ (by omega)).trans hSm
  refine V_aload_n d_Mo_push_43 rfl ?_
  refine V_getf d_Mo_push_44 f_Mo_57 hH rfl ?_
  refine V_iload d_Mo_push_47 rfl ?_
  refine V_iconst (v := nI 0) d_Mo_push_49 (by decide +kernel) ?_
  refine V_iastore (j := 5 * t + (dp t)) d_Mo_push_50 rfl hPl rfl (by omega) (by omega) (fun G3 hPlz ho3 => ?_)
  have hPl : G3 (m + 15) = some (.inl (0, 15, .inl (fun j0 => nI ((va_up pl (5 * t + (dp t)) 0) j0)))) := by rw [hPlz, upd_nI]
  have hH := (ho3 _ (by omega)).trans hH
  have hF := (ho3 _ (by omega)).trans hF
  have hCu := (ho3 _ (by omega)).trans hCu
  have hDp := (ho3 _ (by omega)).trans hDp
  have hFr := (ho3 _ (by omega)).trans hFr
  have hFm := (ho3 _ (by omega)).trans hFm
  have hSm := (ho3 _ (by omega)).trans hSm
  refine V_aload_n d_Mo_push_51 rfl ?_
  refine V_getf d_Mo_push_52 f_Mo_60 hH rfl ?_
  refine V_iload d_Mo_push_55 rfl ?_
  refine V_iconst (v := nI 0) d_Mo_push_57 (by decide +kernel) ?_
  refine V_iastore (j := 5 * t + (dp t)) d_Mo_push_58 rfl hSm rfl (by omega) (by omega) (fun G4 hSmz ho4 => ?_)
  have hSm : G4 (m + 16) = some (.inl (0, 15, .inl (fun j0 => (upd sm (5 * t + (dp t)) (nI 0)) j0))) := hSmz
  have hH := (ho4 _ (by omega)).trans hH
  have hF := (ho4 _ (by omega)).trans hF
  have hCu := (ho4 _ (by omega)).trans hCu
  have hDp := (ho4 _ (by omega)).trans hDp
  have hFr := (ho4 _ (by omega)).trans hFr
  have hFm := (ho4 _ (by omega)).trans hFm
  have hPl := (ho4 _ (by omega)).trans hPl
  refine V_aload_n d_Mo_push_59 rfl ?_
  refine V_getf d_Mo_push_60 f_Mo_48 hH rfl ?_
  refine V_iload_n d_Mo_push_63 rfl ?_
  refine V_dup2 d_Mo_push_64 rfl rfl ?_
  refine V_iaload (j := t) d_Mo_push_65 rfl hDp rfl (by omega) (by omega) ?_
  show pV Γ _ _ _ (.int (nI (dp t)) :: _) _ _ _ _ _
  refine V_iconst (v := nI 1) d_Mo_push_66 (by decide +kernel) ?_
  refine V_iaddN d_Mo_push_67 ?_
  refine V_iastore (j := t) d_Mo_push_68 rfl hDp rfl (by omega) (by omega) (fun G5 hDpz ho5 => ?_)
  have hDp : G5 (m + 12) = some (.inl (0, 3, .inl (fun j0 => nI ((va_up dp t (dp t + 1)) j0)))) := by rw [hDpz, upd_nI]
  have hH := (ho5 _ (by omega)).trans hH
  have hF := (ho5 _ (by omega)).trans hF
  have hCu := (ho5 _ (by omega)).trans hCu
  have hFr := (ho5 _ (by omega)).trans hFr
  have hFm := (ho5 _ (by omega)).trans hFm
  have hPl := (ho5 _ (by omega)).trans hPl
  have hSm := (ho5 _ (by omega)).trans hSm
  exact V_return d_Mo_push_69 rfl (hQ _ hDp hFr hFm hPl hSm (fun q hq => by rw [ho5 q (by omega), ho4 q (by omega), ho3 q (by omega), ho2 q (by omega), ho1 q (by omega)]))
set_option maxHeartbeats 1000000 in
theorem c_Mo_start {Γ : pmE} {G : pmG} {n : Nat} {Q : pmPost} {m : Nat} {ch ba : Int32} {f : Nat → Int32} {cu : Nat → Nat} {dp : Nat → Nat} {fr : Nat → Nat} {fm : Nat → Nat} {pl : Nat → Nat} {sm : Nat → Int32} {t : Nat} {x y : Int32} {ld : LdS} (hH : G m = some (.inr (kMo, moFs m ch ba))) (hF : G (m + 1) = some (.inl (0, 4387, .inl f))) (hCu : G (m + 2) = some (.inl (0, 6, .inl (fun j => nI (cu j))))) (hDp : G (m + 12) = some (.inl (0, 3, .inl (fun j => nI (dp j))))) (hFr : G (m + 13) = some (.inl (0, 15, .inl (fun j => nI (fr j))))) (hFm : G (m + 14) = some (.inl (0, 15, .inl (fun j => nI (fm j))))) (hPl : G (m + 15) = some (.inl (0, 15, .inl (fun j => nI (pl j))))) (hSm : G (m + 16) = some (.inl (0, 15, .inl sm))) (ht : t < 3) (hd : dp t ≤ 5) (hL : moL f cu ld) (hN : (dp t ≠ 0 ∨ ¬ pLd ld x ∨ ∃ c L, c < 6 ∧ x = nI c ∧ ld c = some L ∧ ∀ j, j < dNm L.2.1 → dN L.2.1 j ≠ y) → Q (some (.int (nI 0))) n G) (hS : dp t = 0 → ∀ c L j, c < 6 → x = nI c → ld c = some L → dFst L.2.1 y j → ∀ G', G' (m + 12) = some (.inl (0, 3, .inl (fun i => nI (va_up dp t (dp t + 1) i)))) → G' (m + 13) = some (.inl (0, 15, .inl (fun i => nI (va_up fr (5 * t + dp t) (cu c) i)))) → G' (m + 14) = some (.inl (0, 15, .inl (fun i => nI (va_up fm (5 * t + dp t) (23 + 21 * j) i)))) → G' (m + 15) = some (.inl (0, 15, .inl (fun i => nI (va_up pl (5 * t + dp t) 0 i)))) → G' (m + 16) = some (.inl (0, 15, .inl (upd sm (5 * t + dp t) (nI 0)))) → (∀ q, (q < m + 12 ∨ m + 17 ≤ q) → G' q = G q) → Q (some (.int (nI 1))) n G') : pV Γ m_Mo_start 0 [some (.ref m), some (.int (nI t)), some (.int x), some (.int y)] [] n G 0 0 Q := by
  refine V_iload_n d_Mo_start_0 rfl ?_
  refine V_callS (As := [.int (nI t)]) (rest := []) (lo' := [some (.int (nI t))]) (bc1 := 0) (bs1 := 0) (bc' := 0) (bs' := 0) d_Mo_start_1 k_Mo_start_146 rfl rfl rfl rfl (by rfl) (by rfl) ?_
  refine c_Mo_isThread ?_
  show pV Γ m_Mo_start 4 [some (.ref m), some (.int (nI t)), some (.int x), some (.int y)] [.int (pB (∃ j, j < 3 ∧ nI t = nI j))] _ G 0 0 Q
  refine V_if_eqB (tgt := 39) d_Mo_start_4 (by decide) (fun hb4 => ?_) (fun hb4 => ?_)
  · refine V_iconst (v := nI 0) d_Mo_start_39 (by decide +kernel) ?_
    exact V_zreturn d_Mo_start_40 rfl (by first | exact pB_or _ | exact Or.inl rfl | exact Or.inr rfl) (by first | exact absurd ⟨t, ht, rfl⟩ hb4 | exact hN (Or.inl h13) | exact hN (Or.inr (Or.inl (fun e => hb21 ((hL.ldd x).mpr e)))) | exact hN (Or.inr (Or.inr ⟨c, L, hc, rfl, hl, hn⟩)))
  · refine V_aload_n d_Mo_start_7 rfl ?_
    refine V_getf d_Mo_start_8 f_Mo_48 hH rfl ?_
    refine V_iload_n d_Mo_start_11 rfl ?_
    refine V_iaload (j := t) d_Mo_start_12 rfl hDp rfl (by omega) (by omega) ?_
    show pV Γ _ _ _ (.int (nI (dp t)) :: _) _ _ _ _ _
    refine V_if_gt (tgt := 39) d_Mo_start_13 (by decide) (fun h13 => ?_) (fun h13 => ?_)
    · have h13 : dp t ≠ 0 := fun e => by rw [e] at h13; exact absurd h13 (by decide)
      refine V_iconst (v := nI 0) d_Mo_start_39 (by decide +kernel) ?_
      exact V_zreturn d_Mo_start_40 rfl (by first | exact pB_or _ | exact Or.inl rfl | exact Or.inr rfl) (by first | exact absurd ⟨t, ht, rfl⟩ hb4 | exact hN (Or.inl h13) | exact hN (Or.inr (Or.inl (fun e => hb21 ((hL.ldd x).mpr e)))) | exact hN (Or.inr (Or.inr ⟨c, L, hc, rfl, hl, hn⟩)))
    · have h13 : dp t = 0 := (Nat.eq_zero_or_pos _).elim id (fun e => absurd (show nI 0 < nI (dp t) from by rw [Int32.lt_iff_toInt_lt, nI_toInt (by omega), nI_toInt (by omega)]; omega) h13)
      refine V_aload_n d_Mo_start_16 rfl ?_
      refine V_iload_n d_Mo_start_17 rfl ?_
      refine V_callV (As := [.int x]) (rest := []) (lo' := [some (.ref m), some (.int x)]) (bc1 := 0) (bs1 := 0) (bc' := 0) (bs' := 0) d_Mo_start_18 k_Mo_start_77 hH rfl rfl rfl rfl (by rfl) (by rfl) ?_
      refine c_Mo_loaded hH hCu hL.lt ?_
      show pV Γ m_Mo_start 21 [some (.ref m), some (.int (nI t)), some (.int x), some (.int y)] [.int (pB (∃ c, c < 6 ∧ x = nI c ∧ 0 < cu c))] _ G 0 0 Q
      refine V_if_eqB (tgt := 39) d_Mo_start_21 (by decide) (fun hb21 => ?_) (fun hb21 => ?_)
      · refine V_iconst (v := nI 0) d_Mo_start_39 (by decide +kernel) ?_
        exact V_zreturn d_Mo_start_40 rfl (by first | exact pB_or _ | exact Or.inl rfl | exact Or.inr rfl) (by first | exact absurd ⟨t, ht, rfl⟩ hb4 | exact hN (Or.inl h13) | exact hN (Or.inr (Or.inl (fun e => hb21 ((hL.ldd x).mpr e)))) | exact hN (Or.inr (Or.inr ⟨c, L, hc, rfl, hl, hn⟩)))
      · refine V_aload_n d_Mo_start_24 rfl ?_
        refine V_aload_n d_Mo_start_25 rfl ?_
        refine V_getf d_Mo_start_26 f_Mo_17 hH rfl ?_
        refine V_iload_n d_Mo_start_29 rfl ?_
        obtain ⟨c, hc, hx, h0⟩ := hb21
        obtain ⟨L, hl⟩ := (hL.pos hc).mp h0
        obtain ⟨k1, k2, hR⟩ := (hL c hc).1 L hl
        subst hx
        refine V_iaload (j := c) d_Mo_start_30 rfl hCu rfl hc (by omega) ?_
        show pV Γ _ _ [some (.ref m), some (.int (nI t)), some (.int (nI c)), some (.int y)] (.int (nI (cu c)) :: _) _ _ _ _ _
        refine V_iload_n d_Mo_start_31 rfl ?_
        refine V_callV (As := [.int (nI (cu c)), .int y]) (rest := []) (lo' := [some (.ref m), some (.int (nI (cu c))), some (.int y), none]) (bc1 := 0) (bs1 := 0) (bc' := 0) (bs' := 0) d_Mo_start_32 k_Mo_start_89 hH rfl rfl rfl rfl (by rfl) (by rfl) ?_
        refine c_Mo_find hH hF (by omega) hR (fun hn => ?_) (fun j hj => ?_)
        · show pV Γ m_Mo_start 35 [some (.ref m), some (.int (nI t)), some (.int (nI c)), some (.int y)] [.int ((-1))] _ G 0 0 Q
          refine V_iconst (v := (-1)) d_Mo_start_35 (by decide +kernel) ?_
          refine V_icmp_ne (tgt := 41) d_Mo_start_36 (by decide) (fun e => absurd rfl e) (fun _ => ?_)
          refine V_iconst (v := nI 0) d_Mo_start_39 (by decide +kernel) ?_
          exact V_zreturn d_Mo_start_40 rfl (by first | exact pB_or _ | exact Or.inl rfl | exact Or.inr rfl) (by first | exact absurd ⟨t, ht, rfl⟩ hb4 | exact hN (Or.inl h13) | exact hN (Or.inr (Or.inl (fun e => hb21 ((hL.ldd x).mpr e)))) | exact hN (Or.inr (Or.inr ⟨c, L, hc, rfl, hl, hn⟩)))
        · have hj4 := Nat.lt_of_lt_of_le hj.1 hR.1.2.2.1
          show pV Γ m_Mo_start 35 [some (.ref m), some (.int (nI t)), some (.int (nI c)), some (.int y)] [.int (nI (23 + 21 * j))] _ G 0 0 Q
          refine V_iconst (v := (-1)) d_Mo_start_35 (by decide +kernel) ?_
          refine V_icmp_ne (tgt := 41) d_Mo_start_36 (by decide) (fun _ => ?_) (fun e => absurd e (nI_ne1 (by omega)))
          refine V_aload_n d_Mo_start_41 rfl ?_
          refine V_iload_n d_Mo_start_42 rfl ?_
          refine V_iload_n d_Mo_start_43 rfl ?_
          refine V_iload_n d_Mo_start_44 rfl ?_
          refine V_callV (As := [.int (nI t), .int (nI c), .int y]) (rest := []) (lo' := [some (.ref m), some (.int (nI t)), some (.int (nI c)), some (.int y), none]) (bc1 := 0) (bs1 := 0) (bc' := 0) (bs' := 0) d_Mo_start_45 k_Mo_start_149 hH rfl rfl rfl rfl (by rfl) (by rfl) ?_
          refine c_Mo_push hH hF hCu hDp hFr hFm hPl hSm ht (by omega) hc k2 hR hj (fun G1 hDp' hFr' hFm' hPl' hSm' ho1 => ?_)
          show pV Γ m_Mo_start 48 [some (.ref m), some (.int (nI t)), some (.int (nI c)), some (.int y)] [] _ G1 0 0 Q
          refine V_iconst (v := nI 1) d_Mo_start_48 (by decide +kernel) ?_
          exact V_zreturn d_Mo_start_49 rfl (by first | exact pB_or _ | exact Or.inl rfl | exact Or.inr rfl) (hS h13 c L j hc rfl hl hj G1 hDp' hFr' hFm' hPl' hSm' ho1)
theorem c_Mo_startF {Γ : pmE} {G : pmG} {n : Nat} {Q : pmPost} {m : Nat} {z x y : Int32} (hz : ¬ ∃ j, j < 3 ∧ z = nI j) (hN : Q (some (.int (nI 0))) n G) : pV Γ m_Mo_start 0 [some (.ref m), some (.int z), some (.int x), some (.int y)] [] n G 0 0 Q := by
  refine V_iload_n d_Mo_start_0 rfl ?_
  refine V_callS (As := [.int z]) (rest := []) (lo' := [some (.int z)]) (bc1 := 0) (bs1 := 0) (bc' := 0) (bs' := 0) d_Mo_start_1 k_Mo_start_146 rfl rfl rfl rfl (by rfl) (by rfl) ?_
  refine c_Mo_isThread ?_
  show pV Γ m_Mo_start 4 [some (.ref m), some (.int z), some (.int x), some (.int y)] [.int (pB (∃ j, j < 3 ∧ z = nI j))] _ G 0 0 Q
  refine V_if_eqB (tgt := 39) d_Mo_start_4 (by decide) (fun hb4 => ?_) (fun hb4 => ?_)
  · refine V_iconst (v := nI 0) d_Mo_start_39 (by decide +kernel) ?_
    exact V_zreturn d_Mo_start_40 rfl (by first | exact pB_or _ | exact Or.inl rfl | exact Or.inr rfl) (hN)
  · exact absurd hb4 hz
set_option maxHeartbeats 1000000 in
theorem c_Mo_once {Γ : pmE} {G : pmG} {n : Nat} {Q : pmPost} {m : Nat} {ch ba : Int32} {f : Nat → Int32} {cu : Nat → Nat} {dp : Nat → Nat} {fr : Nat → Nat} {fm : Nat → Nat} {pl : Nat → Nat} {sm : Nat → Int32} {rs : Nat → Int32} {t q len : Nat} {o a b : Int32} {ld : LdS} (hH : G m = some (.inr (kMo, moFs m ch ba))) (hF : G (m + 1) = some (.inl (0, 4387, .inl f))) (hCu : G (m + 2) = some (.inl (0, 6, .inl (fun j => nI (cu j))))) (hDp : G (m + 12) = some (.inl (0, 3, .inl (fun j => nI (dp j))))) (hFr : G (m + 13) = some (.inl (0, 15, .inl (fun j => nI (fr j))))) (hFm : G (m + 14) = some (.inl (0, 15, .inl (fun j => nI (fm j))))) (hPl : G (m + 15) = some (.inl (0, 15, .inl (fun j => nI (pl j))))) (hSm : G (m + 16) = some (.inl (0, 15, .inl sm))) (hRs : G (m + 17) = some (.inl (0, 3, .inl rs))) (ht : t < 3) (hd0 : 0 < dp t) (hd : dp t ≤ 5) (hq : q + 1 = 5 * t + dp t) (hL : moL f cu ld) (hr1 : fr q < 41) (hfm : fm q ≤ 86) (hlen : f (107 * fr q + (fm q + 2)) = nI len) (hl6 : len ≤ 6) (hpl : pl q ≤ len) (hop : pl q < len → f (107 * fr q + (fm q + 2 + 1 + 3 * pl q)) = o ∧ f (107 * fr q + (fm q + 2 + 1 + 3 * pl q + 1)) = a ∧ f (107 * fr q + (fm q + 2 + 1 + 3 * pl q + 2)) = b) (hok : pl q < len → o ≠ 0 → dp t < 5 → ∃ c L j, c < 6 ∧ a = nI c ∧ ld c = some L ∧ dFst L.2.1 b j) (hA1 : len ≤ pl q → dp t = 1 → ∀ G', G' (m + 12) = some (.inl (0, 3, .inl (fun i => nI (va_up dp t (dp t - 1) i)))) → G' (m + 17) = some (.inl (0, 3, .inl (upd rs t (sm q)))) → (∀ q, q ≠ m + 12 → q ≠ m + 17 → G' q = G q) → Q none n G') (hA2 : len ≤ pl q → 1 < dp t → ∀ G', G' (m + 12) = some (.inl (0, 3, .inl (fun i => nI (va_up dp t (dp t - 1) i)))) → G' (m + 16) = some (.inl (0, 15, .inl (upd sm (q - 1) (sm (q - 1) + sm q)))) → (∀ q, q ≠ m + 12 → q ≠ m + 16 → G' q = G q) → Q none n G') (hB : pl q < len → o = 0 → ∀ G', G' (m + 15) = some (.inl (0, 15, .inl (fun i => nI (va_up pl q (pl q + 1) i)))) → G' (m + 16) = some (.inl (0, 15, .inl (upd sm q (sm q + a)))) → (∀ q, q ≠ m + 15 → q ≠ m + 16 → G' q = G q) → Q none n G') (hC5 : pl q < len → o ≠ 0 → dp t = 5 → ∀ G', G' (m + 15) = some (.inl (0, 15, .inl (fun i => nI (va_up pl q (pl q + 1) i)))) → (∀ q, q ≠ m + 15 → G' q = G q) → Q none n G') (hCp : pl q < len → o ≠ 0 → dp t < 5 → ∀ c L j, c < 6 → a = nI c → ld c = some L → dFst L.2.1 b j → ∀ G', G' (m + 12) = some (.inl (0, 3, .inl (fun i => nI (va_up dp t (dp t + 1) i)))) → G' (m + 13) = some (.inl (0, 15, .inl (fun i => nI (va_up fr (5 * t + dp t) (cu c) i)))) → G' (m + 14) = some (.inl (0, 15, .inl (fun i => nI (va_up fm (5 * t + dp t) (23 + 21 * j) i)))) → G' (m + 15) = some (.inl (0, 15, .inl (fun i => nI (va_up (va_up pl q (pl q + 1)) (5 * t + dp t) 0 i)))) → G' (m + 16) = some (.inl (0, 15, .inl (upd sm (5 * t + dp t) (nI 0)))) → (∀ q, (q < m + 12 ∨ m + 17 ≤ q) → G' q = G q) → Q none n G') : pV Γ m_Mo_once 0 [some (.ref m), some (.int (nI t)), none, none, none, none, none, none] [] n G 0 0 Q := by
  refine V_iconst (v := nI 5) d_Mo_once_0 (by decide +kernel) ?_
  refine V_iload_n d_Mo_once_1 rfl ?_
  refine V_imulN d_Mo_once_2 ?_
  refine V_aload_n d_Mo_once_3 rfl ?_
  refine V_getf d_Mo_once_4 f_Mo_48 hH rfl ?_
  refine V_iload_n d_Mo_once_7 rfl ?_
  refine V_iaload (j := t) d_Mo_once_8 rfl hDp rfl (by omega) (by omega) ?_
  show pV Γ _ _ _ (.int (nI (dp t)) :: _) _ _ _ _ _
  refine V_iaddN d_Mo_once_9 ?_
  refine V_iconst (v := nI 1) d_Mo_once_10 (by decide +kernel) ?_
  refine V_isubN d_Mo_once_11 (by omega) ?_
  rw [show 5 * t + dp t - 1 = q by omega]
  refine V_istore_n d_Mo_once_12 (Nat.le_of_ble_eq_true rfl) ?_
  show pV Γ _ _ [some (.ref m), some (.int (nI t)), some (.int (nI q)), none, none, none, none, none] _ _ _ _ _ _
  refine V_aload_n d_Mo_once_13 rfl ?_
  refine V_getf d_Mo_once_14 f_Mo_54 hH rfl ?_
  refine V_iload_n d_Mo_once_17 rfl ?_
  refine V_iaload (j := q) d_Mo_once_18 rfl hFm rfl (by omega) (by omega) ?_
  show pV Γ _ _ _ (.int (nI (fm q)) :: _) _ _ _ _ _
  refine V_iconst (v := nI 2) d_Mo_once_19 (by decide +kernel) ?_
  refine V_iaddN d_Mo_once_20 ?_
  refine V_istore_n d_Mo_once_21 (Nat.le_of_ble_eq_true rfl) ?_
  show pV Γ _ _ [some (.ref m), some (.int (nI t)), some (.int (nI q)), some (.int (nI (fm q + 2))), none, none, none, none] _ _ _ _ _ _
  refine V_aload_n d_Mo_once_22 rfl ?_
  refine V_getf d_Mo_once_23 f_Mo_57 hH rfl ?_
  refine V_iload_n d_Mo_once_26 rfl ?_
  refine V_iaload (j := q) d_Mo_once_27 rfl hPl rfl (by omega) (by omega) ?_
  show pV Γ _ _ _ (.int (nI (pl q)) :: _) _ _ _ _ _
  refine V_aload_n d_Mo_once_28 rfl ?_
  refine V_aload_n d_Mo_once_29 rfl ?_
  refine V_getf d_Mo_once_30 f_Mo_51 hH rfl ?_
  refine V_iload_n d_Mo_once_33 rfl ?_
  refine V_iaload (j := q) d_Mo_once_34 rfl hFr rfl (by omega) (by omega) ?_
  show pV Γ _ _ _ (.int (nI (fr q)) :: _) _ _ _ _ _
  refine V_iload_n d_Mo_once_35 rfl ?_
  refine V_callV (As := [.int (nI (fr q)), .int (nI (fm q + 2))]) (rest := [.int (nI (pl q))]) (lo' := [some (.ref m), some (.int (nI (fr q))), some (.int (nI (fm q + 2)))]) (bc1 := 0) (bs1 := 0) (bc' := 0) (bs' := 0) d_Mo_once_36 k_Mo_once_69 hH rfl rfl rfl rfl (by rfl) (by rfl) ?_
  refine c_Mo_get hH hF (by omega) ?_
  rw [hlen]
  show pV Γ m_Mo_once 39 [some (.ref m), some (.int (nI t)), some (.int (nI q)), some (.int (nI (fm q + 2))), none, none, none, none] [.int (nI len), .int (nI (pl q))] _ G 0 0 Q
  refine V_icmp_ltN (tgt := 94) d_Mo_once_39 (by decide) (by omega) (by omega) (fun hb39 => ?_) (fun hb39 => ?_)
  · refine V_iload_n d_Mo_once_94 rfl ?_
    refine V_iconst (v := nI 1) d_Mo_once_95 (by decide +kernel) ?_
    refine V_iaddN d_Mo_once_96 ?_
    refine V_iconst (v := nI 3) d_Mo_once_97 (by decide +kernel) ?_
    refine V_aload_n d_Mo_once_98 rfl ?_
    refine V_getf d_Mo_once_99 f_Mo_57 hH rfl ?_
    refine V_iload_n d_Mo_once_102 rfl ?_
    refine V_iaload (j := q) d_Mo_once_103 rfl hPl rfl (by omega) (by omega) ?_
    show pV Γ _ _ _ (.int (nI (pl q)) :: _) _ _ _ _ _
    refine V_imulN d_Mo_once_104 ?_
    refine V_iaddN d_Mo_once_105 ?_
    refine V_istore d_Mo_once_106 (Nat.le_of_ble_eq_true rfl) ?_
    show pV Γ _ _ [some (.ref m), some (.int (nI t)), some (.int (nI q)), some (.int (nI (fm q + 2))), some (.int (nI (fm q + 2 + 1 + (3 * (pl q))))), none, none, none] _ _ _ _ _ _
    refine V_aload_n d_Mo_once_108 rfl ?_
    refine V_aload_n d_Mo_once_109 rfl ?_
    refine V_getf d_Mo_once_110 f_Mo_51 hH rfl ?_
    refine V_iload_n d_Mo_once_113 rfl ?_
    refine V_iaload (j := q) d_Mo_once_114 rfl hFr rfl (by omega) (by omega) ?_
    show pV Γ _ _ _ (.int (nI (fr q)) :: _) _ _ _ _ _
    refine V_iload d_Mo_once_115 rfl ?_
    refine V_callV (As := [.int (nI (fr q)), .int (nI (fm q + 2 + 1 + (3 * (pl q))))]) (rest := []) (lo' := [some (.ref m), some (.int (nI (fr q))), some (.int (nI (fm q + 2 + 1 + (3 * (pl q)))))]) (bc1 := 0) (bs1 := 0) (bc' := 0) (bs' := 0) d_Mo_once_117 k_Mo_once_69 hH rfl rfl rfl rfl (by rfl) (by rfl) ?_
    refine c_Mo_get hH hF (by omega) ?_
    rw [(hop (by omega)).1]
    show pV Γ m_Mo_once 120 [some (.ref m), some (.int (nI t)), some (.int (nI q)), some (.int (nI (fm q + 2))), some (.int (nI (fm q + 2 + 1 + (3 * (pl q))))), none, none, none] [.int o] _ G 0 0 Q
    refine V_istore d_Mo_once_120 (Nat.le_of_ble_eq_true rfl) ?_
    show pV Γ _ _ [some (.ref m), some (.int (nI t)), some (.int (nI q)), some (.int (nI (fm q + 2))), some (.int (nI (fm q + 2 + 1 + (3 * (pl q))))), some (.int o), none, none] _ _ _ _ _ _
    refine V_aload_n d_Mo_once_122 rfl ?_
    refine V_aload_n d_Mo_once_123 rfl ?_
    refine V_getf d_Mo_once_124 f_Mo_51 hH rfl ?_
    refine V_iload_n d_Mo_once_127 rfl ?_
    refine V_iaload (j := q) d_Mo_once_128 rfl hFr rfl (by omega) (by omega) ?_
    show pV Γ _ _ _ (.int (nI (fr q)) :: _) _ _ _ _ _
    refine V_iload d_Mo_once_129 rfl ?_
    refine V_iconst (v := nI 1) d_Mo_once_131 (by decide +kernel) ?_
    refine V_iaddN d_Mo_once_132 ?_
    refine V_callV (As := [.int (nI (fr q)), .int (nI (fm q + 2 + 1 + (3 * (pl q)) + 1))]) (rest := []) (lo' := [some (.ref m), some (.int (nI (fr q))), some (.int (nI (fm q + 2 + 1 + (3 * (pl q)) + 1)))]) (bc1 := 0) (bs1 := 0) (bc' := 0) (bs' := 0) d_Mo_once_133 k_Mo_once_69 hH rfl rfl rfl rfl (by rfl) (by rfl) ?_
    refine c_Mo_get hH hF (by omega) ?_
    rw [(hop (by omega)).2.1]
    show pV Γ m_Mo_once 136 [some (.ref m), some (.int (nI t)), some (.int (nI q)), some (.int (nI (fm q + 2))), some (.int (nI (fm q + 2 + 1 + (3 * (pl q))))), some (.int o), none, none] [.int a] _ G 0 0 Q
    refine V_istore d_Mo_once_136 (Nat.le_of_ble_eq_true rfl) ?_
    show pV Γ _ _ [some (.ref m), some (.int (nI t)), some (.int (nI q)), some (.int (nI (fm q + 2))), some (.int (nI (fm q + 2 + 1 + (3 * (pl q))))), some (.int o), some (.int a), none] _ _ _ _ _ _
    refine V_aload_n d_Mo_once_138 rfl ?_
    refine V_aload_n d_Mo_once_139 rfl ?_
    refine V_getf d_Mo_once_140 f_Mo_51 hH rfl ?_
    refine V_iload_n d_Mo_once_143 rfl ?_
    refine V_iaload (j := q) d_Mo_once_144 rfl hFr rfl (by omega) (by omega) ?_
    show pV Γ _ _ _ (.int (nI (fr q)) :: _) _ _ _ _ _
    refine V_iload d_Mo_once_145 rfl ?_
    refine V_iconst (v := nI 2) d_Mo_once_147 (by decide +kernel) ?_
    refine V_iaddN d_Mo_once_148 ?_
    refine V_callV (As := [.int (nI (fr q)), .int (nI (fm q + 2 + 1 + (3 * (pl q)) + 2))]) (rest := []) (lo' := [some (.ref m), some (.int (nI (fr q))), some (.int (nI (fm q + 2 + 1 + (3 * (pl q)) + 2)))]) (bc1 := 0) (bs1 := 0) (bc' := 0) (bs' := 0) d_Mo_once_149 k_Mo_once_69 hH rfl rfl rfl rfl (by rfl) (by rfl) ?_
    refine c_Mo_get hH hF (by omega) ?_
    rw [(hop (by omega)).2.2]
    show pV Γ m_Mo_once 152 [some (.ref m), some (.int (nI t)), some (.int (nI q)), some (.int (nI (fm q + 2))), some (.int (nI (fm q + 2 + 1 + (3 * (pl q))))), some (.int o), some (.int a), none] [.int b] _ G 0 0 Q
    refine V_istore d_Mo_once_152 (Nat.le_of_ble_eq_true rfl) ?_
    show pV Γ _ _ [some (.ref m), some (.int (nI t)), some (.int (nI q)), some (.int (nI (fm q + 2))), some (.int (nI (fm q + 2 + 1 + (3 * (pl q))))), some (.int o), some (.int a), some (.int b)] _ _ _ _ _ _
    refine V_aload_n d_Mo_once_154 rfl ?_
    refine V_getf d_Mo_once_155 f_Mo_57 hH rfl ?_
    refine V_iload_n d_Mo_once_158 rfl ?_
    refine V_dup2 d_Mo_once_159 rfl rfl ?_
    refine V_iaload (j := q) d_Mo_once_160 rfl hPl rfl (by omega) (by omega) ?_
    show pV Γ _ _ _ (.int (nI (pl q)) :: _) _ _ _ _ _
    refine V_iconst (v := nI 1) d_Mo_once_161 (by decide +kernel) ?_
    refine V_iaddN d_Mo_once_162 ?_
    refine V_iastore (j := q) d_Mo_once_163 rfl hPl rfl (by omega) (by omega) (fun G1 hPlz ho1 => ?_)
    have hPl : G1 (m + 15) = some (.inl (0, 15, .inl (fun j0 => nI ((va_up pl q (pl q + 1)) j0)))) := by rw [hPlz, upd_nI]
    have hH := (ho1 _ (by omega)).trans hH
    have hF := (ho1 _ (by omega)).trans hF
    have hCu := (ho1 _ (by omega)).trans hCu
    have hDp := (ho1 _ (by omega)).trans hDp
    have hFr := (ho1 _ (by omega)).trans hFr
    have hFm := (ho1 _ (by omega)).trans hFm
    have hSm := (ho1 _ (by omega)).trans hSm
    have hRs := (ho1 _ (by omega)).trans hRs
    refine V_iload d_Mo_once_164 rfl ?_
    refine V_if_ne (tgt := 183) d_Mo_once_166 (by decide) (fun hb166 => ?_) (fun hb166 => ?_)
    · refine V_aload_n d_Mo_once_183 rfl ?_
      refine V_getf d_Mo_once_184 f_Mo_48 hH rfl ?_
      refine V_iload_n d_Mo_once_187 rfl ?_
      refine V_iaload (j := t) d_Mo_once_188 rfl hDp rfl (by omega) (by omega) ?_
      show pV Γ _ _ _ (.int (nI (dp t)) :: _) _ _ _ _ _
      refine V_iconst (v := nI 5) d_Mo_once_189 (by decide +kernel) ?_
      refine V_icmp_geN (tgt := 202) d_Mo_once_190 (by decide) (by omega) (by omega) (fun hb190 => ?_) (fun hb190 => ?_)
      · exact V_return d_Mo_once_202 rfl (hC5 (by omega) hb166 (by omega) _ hPl (fun q hq => by rw [ho1 q (by omega)]))
      · refine V_aload_n d_Mo_once_193 rfl ?_
        refine V_iload_n d_Mo_once_194 rfl ?_
        refine V_iload d_Mo_once_195 rfl ?_
        refine V_iload d_Mo_once_197 rfl ?_
        obtain ⟨cc, L, j, hcc, ha, hl, hj⟩ := hok (by omega) hb166 (by omega)
        subst ha
        obtain ⟨k1, k2, hR⟩ := (hL cc hcc).1 L hl
        refine V_callV (As := [.int (nI t), .int (nI cc), .int b]) (rest := []) (lo' := [some (.ref m), some (.int (nI t)), some (.int (nI cc)), some (.int b), none]) (bc1 := 0) (bs1 := 0) (bc' := 0) (bs' := 0) d_Mo_once_199 k_Mo_once_149 hH rfl rfl rfl rfl (by rfl) (by rfl) ?_
        refine c_Mo_push hH hF hCu hDp hFr hFm hPl hSm ht (by omega) hcc k2 hR hj (fun G2 hDp' hFr' hFm' hPl' hSm' ho2 => ?_)
        show pV Γ m_Mo_once 202 [some (.ref m), some (.int (nI t)), some (.int (nI q)), some (.int (nI (fm q + 2))), some (.int (nI (fm q + 2 + 1 + (3 * (pl q))))), some (.int o), some (.int (nI cc)), some (.int b)] [] _ G2 0 0 Q
        exact V_return d_Mo_once_202 rfl (hCp (by omega) hb166 (by omega) cc L j hcc rfl hl hj _ hDp' hFr' hFm' hPl' hSm' (fun q hq => by rw [ho2 q (by omega), ho1 q (by omega)]))
    · refine V_aload_n d_Mo_once_169 rfl ?_
      refine V_getf d_Mo_once_170 f_Mo_60 hH rfl ?_
      refine V_iload_n d_Mo_once_173 rfl ?_
      refine V_dup2 d_Mo_once_174 rfl rfl ?_
      refine V_iaload (j := q) d_Mo_once_175 rfl hSm rfl (by omega) (by omega) ?_
      show pV Γ _ _ _ (.int ((sm q)) :: _) _ _ _ _ _
      refine V_iload d_Mo_once_176 rfl ?_
      refine V_iadd d_Mo_once_178 ?_
      refine V_iastore (j := q) d_Mo_once_179 rfl hSm rfl (by omega) (by omega) (fun G2 hSmz ho2 => ?_)
      have hSm : G2 (m + 16) = some (.inl (0, 15, .inl (fun j0 => (upd sm q ((sm q) + a)) j0))) := hSmz
      have hH := (ho2 _ (by omega)).trans hH
      have hF := (ho2 _ (by omega)).trans hF
      have hCu := (ho2 _ (by omega)).trans hCu
      have hDp := (ho2 _ (by omega)).trans hDp
      have hFr := (ho2 _ (by omega)).trans hFr
      have hFm := (ho2 _ (by omega)).trans hFm
      have hPl := (ho2 _ (by omega)).trans hPl
      have hRs := (ho2 _ (by omega)).trans hRs
      refine V_goto (tgt := 202) d_Mo_once_180 (by decide) ?_
      exact V_return d_Mo_once_202 rfl (hB (by omega) hb166 _ hPl hSm (fun q h1 h2 => by rw [ho2 q (by omega), ho1 q (by omega)]))
  · refine V_aload_n d_Mo_once_42 rfl ?_
    refine V_getf d_Mo_once_43 f_Mo_48 hH rfl ?_
    refine V_iload_n d_Mo_once_46 rfl ?_
    refine V_dup2 d_Mo_once_47 rfl rfl ?_
    refine V_iaload (j := t) d_Mo_once_48 rfl hDp rfl (by omega) (by omega) ?_
    show pV Γ _ _ _ (.int (nI (dp t)) :: _) _ _ _ _ _
    refine V_iconst (v := nI 1) d_Mo_once_49 (by decide +kernel) ?_
    refine V_isubN d_Mo_once_50 (by omega) ?_
    refine V_iastore (j := t) d_Mo_once_51 rfl hDp rfl (by omega) (by omega) (fun G1 hDpz ho1 => ?_)
    have hDp : G1 (m + 12) = some (.inl (0, 3, .inl (fun j0 => nI ((va_up dp t ((dp t) - 1)) j0)))) := by rw [hDpz, upd_nI]
    have hH := (ho1 _ (by omega)).trans hH
    have hF := (ho1 _ (by omega)).trans hF
    have hCu := (ho1 _ (by omega)).trans hCu
    have hFr := (ho1 _ (by omega)).trans hFr
    have hFm := (ho1 _ (by omega)).trans hFm
    have hPl := (ho1 _ (by omega)).trans hPl
    have hSm := (ho1 _ (by omega)).trans hSm
    have hRs := (ho1 _ (by omega)).trans hRs
    refine V_aload_n d_Mo_once_52 rfl ?_
    refine V_getf d_Mo_once_53 f_Mo_48 hH rfl ?_
    refine V_iload_n d_Mo_once_56 rfl ?_
    refine V_iaload (j := t) d_Mo_once_57 rfl hDp rfl (by omega) (by omega) ?_
    rw [va_up_self]
    show pV Γ _ _ _ [.int (nI (dp t - 1))] _ _ _ _ _
    refine V_if_neN (tgt := 76) d_Mo_once_58 (by decide) (by omega) (fun hb58 => ?_) (fun hb58 => ?_)
    · refine V_aload_n d_Mo_once_76 rfl ?_
      refine V_getf d_Mo_once_77 f_Mo_60 hH rfl ?_
      refine V_iload_n d_Mo_once_80 rfl ?_
      refine V_iconst (v := nI 1) d_Mo_once_81 (by decide +kernel) ?_
      refine V_isubN d_Mo_once_82 (by omega) ?_
      refine V_dup2 d_Mo_once_83 rfl rfl ?_
      refine V_iaload (j := q - 1) d_Mo_once_84 rfl hSm rfl (by omega) (by omega) ?_
      show pV Γ _ _ _ (.int ((sm (q - 1))) :: _) _ _ _ _ _
      refine V_aload_n d_Mo_once_85 rfl ?_
      refine V_getf d_Mo_once_86 f_Mo_60 hH rfl ?_
      refine V_iload_n d_Mo_once_89 rfl ?_
      refine V_iaload (j := q) d_Mo_once_90 rfl hSm rfl (by omega) (by omega) ?_
      show pV Γ _ _ _ (.int ((sm q)) :: _) _ _ _ _ _
      refine V_iadd d_Mo_once_91 ?_
      refine V_iastore (j := q - 1) d_Mo_once_92 rfl hSm rfl (by omega) (by omega) (fun G2 hSmz ho2 => ?_)
      have hSm : G2 (m + 16) = some (.inl (0, 15, .inl (fun j0 => (upd sm (q - 1) ((sm (q - 1)) + (sm q))) j0))) := hSmz
      have hH := (ho2 _ (by omega)).trans hH
      have hF := (ho2 _ (by omega)).trans hF
      have hCu := (ho2 _ (by omega)).trans hCu
      have hDp := (ho2 _ (by omega)).trans hDp
      have hFr := (ho2 _ (by omega)).trans hFr
      have hFm := (ho2 _ (by omega)).trans hFm
      have hPl := (ho2 _ (by omega)).trans hPl
      have hRs := (ho2 _ (by omega)).trans hRs
      exact V_return d_Mo_once_93 rfl (hA2 (by omega) (by omega) _ hDp hSm (fun q h1 h2 => by rw [ho2 q (by omega), ho1 q (by omega)]))
    · refine V_aload_n d_Mo_once_61 rfl ?_
      refine V_getf d_Mo_once_62 f_Mo_63 hH rfl ?_
      refine V_iload_n d_Mo_once_65 rfl ?_
      refine V_aload_n d_Mo_once_66 rfl ?_
      refine V_getf d_Mo_once_67 f_Mo_60 hH rfl ?_
      refine V_iload_n d_Mo_once_70 rfl ?_
      refine V_iaload (j := q) d_Mo_once_71 rfl hSm rfl (by omega) (by omega) ?_
      show pV Γ _ _ _ (.int ((sm q)) :: _) _ _ _ _ _
      refine V_iastore (j := t) d_Mo_once_72 rfl hRs rfl (by omega) (by omega) (fun G2 hRsz ho2 => ?_)
      have hRs : G2 (m + 17) = some (.inl (0, 3, .inl (fun j0 => (upd rs t ((sm q))) j0))) := hRsz
      have hH := (ho2 _ (by omega)).trans hH
      have hF := (ho2 _ (by omega)).trans hF
      have hCu := (ho2 _ (by omega)).trans hCu
      have hDp := (ho2 _ (by omega)).trans hDp
      have hFr := (ho2 _ (by omega)).trans hFr
      have hFm := (ho2 _ (by omega)).trans hFm
      have hPl := (ho2 _ (by omega)).trans hPl
      have hSm := (ho2 _ (by omega)).trans hSm
      refine V_goto (tgt := 93) d_Mo_once_73 (by decide) ?_
      exact V_return d_Mo_once_93 rfl (hA1 (by omega) (by omega) _ hDp hRs (fun q h1 h2 => by rw [ho2 q (by omega), ho1 q (by omega)]))
set_option maxHeartbeats 1000000 in
theorem c_Mo_init {Γ : pmE} {G : pmG} {n : Nat} {Q : pmPost} {m : Nat} (hH : G m = some (.inr (kMo, [.null, .int 0, .null, .null, .null, .null, .null, .null, .null, .null, .null, .int 0, .null, .null, .null, .null, .null, .null, .null]))) (hQ : ∀ G' g, G' m = some (.inr (kMo, moFs m (-1) (nI 0))) → G' (m + 1) = some (.inl (0, 4387, .inl g)) → isRow g 0 dBlk → G' (m + 2) = some (.inl (0, 6, .inl (fun _ => 0))) → G' (m + 3) = some (.inl (0, 6, .inl (fun _ => 0))) → G' (m + 4) = some (.inl (0, 41, .inl (fun _ => 0))) → G' (m + 5) = some (.inl (0, 41, .inl (fun _ => 0))) → G' (m + 6) = some (.inl (1, 5, .inl (fun _ => 0))) → G' (m + 7) = some (.inl (0, 5, .inl (fun _ => 0))) → G' (m + 8) = some (.inl (0, 5, .inl (fun _ => 0))) → G' (m + 9) = some (.inl (0, 5, .inl (fun _ => 0))) → G' (m + 10) = some (.inl (1, 5, .inl (fun _ => 0))) → G' (m + 11) = some (.inl (0, 3, .inl (fun _ => 0))) → G' (m + 12) = some (.inl (0, 3, .inl (fun _ => 0))) → G' (m + 13) = some (.inl (0, 15, .inl (fun _ => 0))) → G' (m + 14) = some (.inl (0, 15, .inl (fun _ => 0))) → G' (m + 15) = some (.inl (0, 15, .inl (fun _ => 0))) → G' (m + 16) = some (.inl (0, 15, .inl (fun _ => 0))) → G' (m + 17) = some (.inl (0, 3, .inl (fun _ => 0))) → (∀ q, (q < m ∨ m + 18 ≤ q) → G' q = G q) → Q none (m + 18) G') : pV Γ m_Mo_init 0 [some (.ref m)] [] (m + 1) G 17 4575 Q := by
  refine V_aload_n d_Mo_init_0 rfl ?_
  refine V_objInit d_Mo_init_1 w_585 w_21 w_22 (by decide +kernel) rfl ?_
  refine V_aload_n d_Mo_init_4 rfl ?_
  refine V_sipush (v := nI 4387) d_Mo_init_5 (by decide +kernel) ?_
  refine V_newi (N := 4387) d_Mo_init_8 rfl (by decide) w_51 rfl (by rfl) (by rfl) (fun G1 hn1 ho1 => ?_)
  have hn1 : G1 (m + 1) = some (.inl (0, 4387, .inl (fun _ => 0))) := hn1
  show pV Γ _ _ _ (.ref (m + 1) :: _) (m + 2) _ _ _ _
  have hH := (ho1 _ (by omega)).trans hH
  refine V_putF d_Mo_init_10 p_Mo_7 rfl hH rfl rfl rfl (fun G2 hHz ho2 => ?_)
  have hH : G2 m = some (.inr (kMo, [.ref (m + 1), .int 0, .null, .null, .null, .null, .null, .null, .null, .null, .null, .int 0, .null, .null, .null, .null, .null, .null, .null])) := hHz
  have hn1 := (ho2 _ (by omega)).trans hn1
  refine V_aload_n d_Mo_init_13 rfl ?_
  refine V_iconst (v := (-1)) d_Mo_init_14 (by decide +kernel) ?_
  refine V_putf d_Mo_init_15 f_Mo_13 p_Mo_13 hH rfl rfl rfl (fun G3 hHz ho3 => ?_)
  have hH : G3 m = some (.inr (kMo, [.ref (m + 1), .int ((-1)), .null, .null, .null, .null, .null, .null, .null, .null, .null, .int 0, .null, .null, .null, .null, .null, .null, .null])) := hHz
  have hn1 := (ho3 _ (by omega)).trans hn1
  refine V_aload_n d_Mo_init_18 rfl ?_
  refine V_bipush (v := nI 6) d_Mo_init_19 (by decide +kernel) ?_
  refine V_newi (N := 6) d_Mo_init_21 rfl (by decide) w_51 rfl (by rfl) (by rfl) (fun G4 hn4 ho4 => ?_)
  have hn4 : G4 (m + 2) = some (.inl (0, 6, .inl (fun _ => 0))) := hn4
  show pV Γ _ _ _ (.ref (m + 2) :: _) (m + 3) _ _ _ _
  have hH := (ho4 _ (by omega)).trans hH
  have hn1 := (ho4 _ (by omega)).trans hn1
  refine V_putF d_Mo_init_23 p_Mo_17 rfl hH rfl rfl rfl (fun G5 hHz ho5 => ?_)
  have hH : G5 m = some (.inr (kMo, [.ref (m + 1), .int ((-1)), .ref (m + 2), .null, .null, .null, .null, .null, .null, .null, .null, .int 0, .null, .null, .null, .null, .null, .null, .null])) := hHz
  have hn1 := (ho5 _ (by omega)).trans hn1
  have hn4 := (ho5 _ (by omega)).trans hn4
  refine V_aload_n d_Mo_init_26 rfl ?_
  refine V_bipush (v := nI 6) d_Mo_init_27 (by decide +kernel) ?_
  refine V_newi (N := 6) d_Mo_init_29 rfl (by decide) w_51 rfl (by rfl) (by rfl) (fun G6 hn6 ho6 => ?_)
  have hn6 : G6 (m + 3) = some (.inl (0, 6, .inl (fun _ => 0))) := hn6
  show pV Γ _ _ _ (.ref (m + 3) :: _) (m + 4) _ _ _ _
  have hH := (ho6 _ (by omega)).trans hH
  have hn1 := (ho6 _ (by omega)).trans hn1
  have hn4 := (ho6 _ (by omega)).trans hn4
  refine V_putF d_Mo_init_31 p_Mo_20 rfl hH rfl rfl rfl (fun G7 hHz ho7 => ?_)
  have hH : G7 m = some (.inr (kMo, [.ref (m + 1), .int ((-1)), .ref (m + 2), .ref (m + 3), .null, .null, .null, .null, .null, .null, .null, .int 0, .null, .null, .null, .null, .null, .null, .null])) := hHz
  have hn1 := (ho7 _ (by omega)).trans hn1
  have hn4 := (ho7 _ (by omega)).trans hn4
  have hn6 := (ho7 _ (by omega)).trans hn6
  refine V_aload_n d_Mo_init_34 rfl ?_
  refine V_bipush (v := nI 41) d_Mo_init_35 (by decide +kernel) ?_
  refine V_newi (N := 41) d_Mo_init_37 rfl (by decide) w_51 rfl (by rfl) (by rfl) (fun G8 hn8 ho8 => ?_)
  have hn8 : G8 (m + 4) = some (.inl (0, 41, .inl (fun _ => 0))) := hn8
  show pV Γ _ _ _ (.ref (m + 4) :: _) (m + 5) _ _ _ _
  have hH := (ho8 _ (by omega)).trans hH
  have hn1 := (ho8 _ (by omega)).trans hn1
  have hn4 := (ho8 _ (by omega)).trans hn4
  have hn6 := (ho8 _ (by omega)).trans hn6
  refine V_putF d_Mo_init_39 p_Mo_23 rfl hH rfl rfl rfl (fun G9 hHz ho9 => ?_)
  have hH : G9 m = some (.inr (kMo, [.ref (m + 1), .int ((-1)), .ref (m + 2), .ref (m + 3), .ref (m + 4), .null, .null, .null, .null, .null, .null, .int 0, .null, .null, .null, .null, .null, .null, .null])) := hHz
  have hn1 := (ho9 _ (by omega)).trans hn1
  have hn4 := (ho9 _ (by omega)).trans hn4
  have hn6 := (ho9 _ (by omega)).trans hn6
  have hn8 := (ho9 _ (by omega)).trans hn8
  refine V_aload_n d_Mo_init_42 rfl ?_
  refine V_bipush (v := nI 41) d_Mo_init_43 (by decide +kernel) ?_
  refine V_newi (N := 41) d_Mo_init_45 rfl (by decide) w_51 rfl (by rfl) (by rfl) (fun G10 hn10 ho10 => ?_)
  have hn10 : G10 (m + 5) = some (.inl (0, 41, .inl (fun _ => 0))) := hn10
  show pV Γ _ _ _ (.ref (m + 5) :: _) (m + 6) _ _ _ _
  have hH := (ho10 _ (by omega)).trans hH
  have hn1 := (ho10 _ (by omega)).trans hn1
  have hn4 := (ho10 _ (by omega)).trans hn4
  have hn6 := (ho10 _ (by omega)).trans hn6
  have hn8 := (ho10 _ (by omega)).trans hn8
  refine V_putF d_Mo_init_47 p_Mo_26 rfl hH rfl rfl rfl (fun G11 hHz ho11 => ?_)
  have hH : G11 m = some (.inr (kMo, [.ref (m + 1), .int ((-1)), .ref (m + 2), .ref (m + 3), .ref (m + 4), .ref (m + 5), .null, .null, .null, .null, .null, .int 0, .null, .null, .null, .null, .null, .null, .null])) := hHz
  have hn1 := (ho11 _ (by omega)).trans hn1
  have hn4 := (ho11 _ (by omega)).trans hn4
  have hn6 := (ho11 _ (by omega)).trans hn6
  have hn8 := (ho11 _ (by omega)).trans hn8
  have hn10 := (ho11 _ (by omega)).trans hn10
  refine V_aload_n d_Mo_init_50 rfl ?_
  refine V_iconst (v := nI 5) d_Mo_init_51 (by decide +kernel) ?_
  refine V_newz (N := 5) d_Mo_init_52 rfl (by decide) w_652 rfl (by rfl) (by rfl) (fun G12 hn12 ho12 => ?_)
  have hn12 : G12 (m + 6) = some (.inl (1, 5, .inl (fun _ => 0))) := hn12
  show pV Γ _ _ _ (.ref (m + 6) :: _) (m + 7) _ _ _ _
  have hH := (ho12 _ (by omega)).trans hH
  have hn1 := (ho12 _ (by omega)).trans hn1
  have hn4 := (ho12 _ (by omega)).trans hn4
  have hn6 := (ho12 _ (by omega)).trans hn6
  have hn8 := (ho12 _ (by omega)).trans hn8
  have hn10 := (ho12 _ (by omega)).trans hn10
  refine V_putF d_Mo_init_54 p_Mo_29 rfl hH rfl rfl rfl (fun G13 hHz ho13 => ?_)
  have hH : G13 m = some (.inr (kMo, [.ref (m + 1), .int ((-1)), .ref (m + 2), .ref (m + 3), .ref (m + 4), .ref (m + 5), .ref (m + 6), .null, .null, .null, .null, .int 0, .null, .null, .null, .null, .null, .null, .null])) := hHz
  have hn1 := (ho13 _ (by omega)).trans hn1
  have hn4 := (ho13 _ (by omega)).trans hn4
  have hn6 := (ho13 _ (by omega)).trans hn6
  have hn8 := (ho13 _ (by omega)).trans hn8
  have hn10 := (ho13 _ (by omega)).trans hn10
  have hn12 := (ho13 _ (by omega)).trans hn12
  refine V_aload_n d_Mo_init_57 rfl ?_
  refine V_iconst (v := nI 5) d_Mo_init_58 (by decide +kernel) ?_
  refine V_newi (N := 5) d_Mo_init_59 rfl (by decide) w_51 rfl (by rfl) (by rfl) (fun G14 hn14 ho14 => ?_)
  have hn14 : G14 (m + 7) = some (.inl (0, 5, .inl (fun _ => 0))) := hn14
  show pV Γ _ _ _ (.ref (m + 7) :: _) (m + 8) _ _ _ _
  have hH := (ho14 _ (by omega)).trans hH
  have hn1 := (ho14 _ (by omega)).trans hn1
  have hn4 := (ho14 _ (by omega)).trans hn4
  have hn6 := (ho14 _ (by omega)).trans hn6
  have hn8 := (ho14 _ (by omega)).trans hn8
  have hn10 := (ho14 _ (by omega)).trans hn10
  have hn12 := (ho14 _ (by omega)).trans hn12
  refine V_putF d_Mo_init_61 p_Mo_33 rfl hH rfl rfl rfl (fun G15 hHz ho15 => ?_)
  have hH : G15 m = some (.inr (kMo, [.ref (m + 1), .int ((-1)), .ref (m + 2), .ref (m + 3), .ref (m + 4), .ref (m + 5), .ref (m + 6), .ref (m + 7), .null, .null, .null, .int 0, .null, .null, .null, .null, .null, .null, .null])) := hHz
  have hn1 := (ho15 _ (by omega)).trans hn1
  have hn4 := (ho15 _ (by omega)).trans hn4
  have hn6 := (ho15 _ (by omega)).trans hn6
  have hn8 := (ho15 _ (by omega)).trans hn8
  have hn10 := (ho15 _ (by omega)).trans hn10
  have hn12 := (ho15 _ (by omega)).trans hn12
  have hn14 := (ho15 _ (by omega)).trans hn14
  refine V_aload_n d_Mo_init_64 rfl ?_
  refine V_iconst (v := nI 5) d_Mo_init_65 (by decide +kernel) ?_
  refine V_newi (N := 5) d_Mo_init_66 rfl (by decide) w_51 rfl (by rfl) (by rfl) (fun G16 hn16 ho16 => ?_)
  have hn16 : G16 (m + 8) = some (.inl (0, 5, .inl (fun _ => 0))) := hn16
  show pV Γ _ _ _ (.ref (m + 8) :: _) (m + 9) _ _ _ _
  have hH := (ho16 _ (by omega)).trans hH
  have hn1 := (ho16 _ (by omega)).trans hn1
  have hn4 := (ho16 _ (by omega)).trans hn4
  have hn6 := (ho16 _ (by omega)).trans hn6
  have hn8 := (ho16 _ (by omega)).trans hn8
  have hn10 := (ho16 _ (by omega)).trans hn10
  have hn12 := (ho16 _ (by omega)).trans hn12
  have hn14 := (ho16 _ (by omega)).trans hn14
  refine V_putF d_Mo_init_68 p_Mo_36 rfl hH rfl rfl rfl (fun G17 hHz ho17 => ?_)
  have hH : G17 m = some (.inr (kMo, [.ref (m + 1), .int ((-1)), .ref (m + 2), .ref (m + 3), .ref (m + 4), .ref (m + 5), .ref (m + 6), .ref (m + 7), .ref (m + 8), .null, .null, .int 0, .null, .null, .null, .null, .null, .null, .null])) := hHz
  have hn1 := (ho17 _ (by omega)).trans hn1
  have hn4 := (ho17 _ (by omega)).trans hn4
  have hn6 := (ho17 _ (by omega)).trans hn6
  have hn8 := (ho17 _ (by omega)).trans hn8
  have hn10 := (ho17 _ (by omega)).trans hn10
  have hn12 := (ho17 _ (by omega)).trans hn12
  have hn14 := (ho17 _ (by omega)).trans hn14
  have hn16 := (ho17 _ (by omega)).trans hn16
  refine V_aload_n d_Mo_init_71 rfl ?_
  refine V_iconst (v := nI 5) d_Mo_init_72 (by decide +kernel) ?_
  refine V_newi (N := 5) d_Mo_init_73 rfl (by decide) w_51 rfl (by rfl) (by rfl) (fun G18 hn18 ho18 => ?_)
  have hn18 : G18 (m + 9) = some (.inl (0, 5, .inl (fun _ => 0))) := hn18
  show pV Γ _ _ _ (.ref (m + 9) :: _) (m + 10) _ _ _ _
  have hH := (ho18 _ (by omega)).trans hH
  have hn1 := (ho18 _ (by omega)).trans hn1
  have hn4 := (ho18 _ (by omega)).trans hn4
  have hn6 := (ho18 _ (by omega)).trans hn6
  have hn8 := (ho18 _ (by omega)).trans hn8
  have hn10 := (ho18 _ (by omega)).trans hn10
  have hn12 := (ho18 _ (by omega)).trans hn12
  have hn14 := (ho18 _ (by omega)).trans hn14
  have hn16 := (ho18 _ (by omega)).trans hn16
  refine V_putF d_Mo_init_75 p_Mo_39 rfl hH rfl rfl rfl (fun G19 hHz ho19 => ?_)
  have hH : G19 m = some (.inr (kMo, [.ref (m + 1), .int ((-1)), .ref (m + 2), .ref (m + 3), .ref (m + 4), .ref (m + 5), .ref (m + 6), .ref (m + 7), .ref (m + 8), .ref (m + 9), .null, .int 0, .null, .null, .null, .null, .null, .null, .null])) := hHz
  have hn1 := (ho19 _ (by omega)).trans hn1
  have hn4 := (ho19 _ (by omega)).trans hn4
  have hn6 := (ho19 _ (by omega)).trans hn6
  have hn8 := (ho19 _ (by omega)).trans hn8
  have hn10 := (ho19 _ (by omega)).trans hn10
  have hn12 := (ho19 _ (by omega)).trans hn12
  have hn14 := (ho19 _ (by omega)).trans hn14
  have hn16 := (ho19 _ (by omega)).trans hn16
  have hn18 := (ho19 _ (by omega)).trans hn18
  refine V_aload_n d_Mo_init_78 rfl ?_
  refine V_iconst (v := nI 5) d_Mo_init_79 (by decide +kernel) ?_
  refine V_newz (N := 5) d_Mo_init_80 rfl (by decide) w_652 rfl (by rfl) (by rfl) (fun G20 hn20 ho20 => ?_)
  have hn20 : G20 (m + 10) = some (.inl (1, 5, .inl (fun _ => 0))) := hn20
  show pV Γ _ _ _ (.ref (m + 10) :: _) (m + 11) _ _ _ _
  have hH := (ho20 _ (by omega)).trans hH
  have hn1 := (ho20 _ (by omega)).trans hn1
  have hn4 := (ho20 _ (by omega)).trans hn4
  have hn6 := (ho20 _ (by omega)).trans hn6
  have hn8 := (ho20 _ (by omega)).trans hn8
  have hn10 := (ho20 _ (by omega)).trans hn10
  have hn12 := (ho20 _ (by omega)).trans hn12
  have hn14 := (ho20 _ (by omega)).trans hn14
  have hn16 := (ho20 _ (by omega)).trans hn16
  have hn18 := (ho20 _ (by omega)).trans hn18
  refine V_putF d_Mo_init_82 p_Mo_42 rfl hH rfl rfl rfl (fun G21 hHz ho21 => ?_)
  have hH : G21 m = some (.inr (kMo, [.ref (m + 1), .int ((-1)), .ref (m + 2), .ref (m + 3), .ref (m + 4), .ref (m + 5), .ref (m + 6), .ref (m + 7), .ref (m + 8), .ref (m + 9), .ref (m + 10), .int 0, .null, .null, .null, .null, .null, .null, .null])) := hHz
  have hn1 := (ho21 _ (by omega)).trans hn1
  have hn4 := (ho21 _ (by omega)).trans hn4
  have hn6 := (ho21 _ (by omega)).trans hn6
  have hn8 := (ho21 _ (by omega)).trans hn8
  have hn10 := (ho21 _ (by omega)).trans hn10
  have hn12 := (ho21 _ (by omega)).trans hn12
  have hn14 := (ho21 _ (by omega)).trans hn14
  have hn16 := (ho21 _ (by omega)).trans hn16
  have hn18 := (ho21 _ (by omega)).trans hn18
  have hn20 := (ho21 _ (by omega)).trans hn20
  refine V_aload_n d_Mo_init_85 rfl ?_
  refine V_iconst (v := nI 3) d_Mo_init_86 (by decide +kernel) ?_
  refine V_newi (N := 3) d_Mo_init_87 rfl (by decide) w_51 rfl (by rfl) (by rfl) (fun G22 hn22 ho22 => ?_)
  have hn22 : G22 (m + 11) = some (.inl (0, 3, .inl (fun _ => 0))) := hn22
  show pV Γ _ _ _ (.ref (m + 11) :: _) (m + 12) _ _ _ _
  have hH := (ho22 _ (by omega)).trans hH
  have hn1 := (ho22 _ (by omega)).trans hn1
  have hn4 := (ho22 _ (by omega)).trans hn4
  have hn6 := (ho22 _ (by omega)).trans hn6
  have hn8 := (ho22 _ (by omega)).trans hn8
  have hn10 := (ho22 _ (by omega)).trans hn10
  have hn12 := (ho22 _ (by omega)).trans hn12
  have hn14 := (ho22 _ (by omega)).trans hn14
  have hn16 := (ho22 _ (by omega)).trans hn16
  have hn18 := (ho22 _ (by omega)).trans hn18
  have hn20 := (ho22 _ (by omega)).trans hn20
  refine V_putF d_Mo_init_89 p_Mo_45 rfl hH rfl rfl rfl (fun G23 hHz ho23 => ?_)
  have hH : G23 m = some (.inr (kMo, [.ref (m + 1), .int ((-1)), .ref (m + 2), .ref (m + 3), .ref (m + 4), .ref (m + 5), .ref (m + 6), .ref (m + 7), .ref (m + 8), .ref (m + 9), .ref (m + 10), .int 0, .ref (m + 11), .null, .null, .null, .null, .null, .null])) := hHz
  have hn1 := (ho23 _ (by omega)).trans hn1
  have hn4 := (ho23 _ (by omega)).trans hn4
  have hn6 := (ho23 _ (by omega)).trans hn6
  have hn8 := (ho23 _ (by omega)).trans hn8
  have hn10 := (ho23 _ (by omega)).trans hn10
  have hn12 := (ho23 _ (by omega)).trans hn12
  have hn14 := (ho23 _ (by omega)).trans hn14
  have hn16 := (ho23 _ (by omega)).trans hn16
  have hn18 := (ho23 _ (by omega)).trans hn18
  have hn20 := (ho23 _ (by omega)).trans hn20
  have hn22 := (ho23 _ (by omega)).trans hn22
  refine V_aload_n d_Mo_init_92 rfl ?_
  refine V_iconst (v := nI 3) d_Mo_init_93 (by decide +kernel) ?_
  refine V_newi (N := 3) d_Mo_init_94 rfl (by decide) w_51 rfl (by rfl) (by rfl) (fun G24 hn24 ho24 => ?_)
  have hn24 : G24 (m + 12) = some (.inl (0, 3, .inl (fun _ => 0))) := hn24
  show pV Γ _ _ _ (.ref (m + 12) :: _) (m + 13) _ _ _ _
  have hH := (ho24 _ (by omega)).trans hH
  have hn1 := (ho24 _ (by omega)).trans hn1
  have hn4 := (ho24 _ (by omega)).trans hn4
  have hn6 := (ho24 _ (by omega)).trans hn6
  have hn8 := (ho24 _ (by omega)).trans hn8
  have hn10 := (ho24 _ (by omega)).trans hn10
  have hn12 := (ho24 _ (by omega)).trans hn12
  have hn14 := (ho24 _ (by omega)).trans hn14
  have hn16 := (ho24 _ (by omega)).trans hn16
  have hn18 := (ho24 _ (by omega)).trans hn18
  have hn20 := (ho24 _ (by omega)).trans hn20
  have hn22 := (ho24 _ (by omega)).trans hn22
  refine V_putF d_Mo_init_96 p_Mo_48 rfl hH rfl rfl rfl (fun G25 hHz ho25 => ?_)
  have hH : G25 m = some (.inr (kMo, [.ref (m + 1), .int ((-1)), .ref (m + 2), .ref (m + 3), .ref (m + 4), .ref (m + 5), .ref (m + 6), .ref (m + 7), .ref (m + 8), .ref (m + 9), .ref (m + 10), .int 0, .ref (m + 11), .ref (m + 12), .null, .null, .null, .null, .null])) := hHz
  have hn1 := (ho25 _ (by omega)).trans hn1
  have hn4 := (ho25 _ (by omega)).trans hn4
  have hn6 := (ho25 _ (by omega)).trans hn6
  have hn8 := (ho25 _ (by omega)).trans hn8
  have hn10 := (ho25 _ (by omega)).trans hn10
  have hn12 := (ho25 _ (by omega)).trans hn12
  have hn14 := (ho25 _ (by omega)).trans hn14
  have hn16 := (ho25 _ (by omega)).trans hn16
  have hn18 := (ho25 _ (by omega)).trans hn18
  have hn20 := (ho25 _ (by omega)).trans hn20
  have hn22 := (ho25 _ (by omega)).trans hn22
  have hn24 := (ho25 _ (by omega)).trans hn24
  refine V_aload_n d_Mo_init_99 rfl ?_
  refine V_bipush (v := nI 15) d_Mo_init_100 (by decide +kernel) ?_
  refine V_newi (N := 15) d_Mo_init_102 rfl (by decide) w_51 rfl (by rfl) (by rfl) (fun G26 hn26 ho26 => ?_)
  have hn26 : G26 (m + 13) = some (.inl (0, 15, .inl (fun _ => 0))) := hn26
  show pV Γ _ _ _ (.ref (m + 13) :: _) (m + 14) _ _ _ _
  have hH := (ho26 _ (by omega)).trans hH
  have hn1 := (ho26 _ (by omega)).trans hn1
  have hn4 := (ho26 _ (by omega)).trans hn4
  have hn6 := (ho26 _ (by omega)).trans hn6
  have hn8 := (ho26 _ (by omega)).trans hn8
  have hn10 := (ho26 _ (by omega)).trans hn10
  have hn12 := (ho26 _ (by omega)).trans hn12
  have hn14 := (ho26 _ (by omega)).trans hn14
  have hn16 := (ho26 _ (by omega)).trans hn16
  have hn18 := (ho26 _ (by omega)).trans hn18
  have hn20 := (ho26 _ (by omega)).trans hn20
  have hn22 := (ho26 _ (by omega)).trans hn22
  have hn24 := (ho26 _ (by omega)).trans hn24
  refine V_putF d_Mo_init_104 p_Mo_51 rfl hH rfl rfl rfl (fun G27 hHz ho27 => ?_)
  have hH : G27 m = some (.inr (kMo, [.ref (m + 1), .int ((-1)), .ref (m + 2), .ref (m + 3), .ref (m + 4), .ref (m + 5), .ref (m + 6), .ref (m + 7), .ref (m + 8), .ref (m + 9), .ref (m + 10), .int 0, .ref (m + 11), .ref (m + 12), .ref (m + 13), .null, .null, .null, .null])) := hHz
  have hn1 := (ho27 _ (by omega)).trans hn1
  have hn4 := (ho27 _ (by omega)).trans hn4
  have hn6 := (ho27 _ (by omega)).trans hn6
  have hn8 := (ho27 _ (by omega)).trans hn8
  have hn10 := (ho27 _ (by omega)).trans hn10
  have hn12 := (ho27 _ (by omega)).trans hn12
  have hn14 := (ho27 _ (by omega)).trans hn14
  have hn16 := (ho27 _ (by omega)).trans hn16
  have hn18 := (ho27 _ (by omega)).trans hn18
  have hn20 := (ho27 _ (by omega)).trans hn20
  have hn22 := (ho27 _ (by omega)).trans hn22
  have hn24 := (ho27 _ (by omega)).trans hn24
  have hn26 := (ho27 _ (by omega)).trans hn26
  refine V_aload_n d_Mo_init_107 rfl ?_
  refine V_bipush (v := nI 15) d_Mo_init_108 (by decide +kernel) ?_
  refine V_newi (N := 15) d_Mo_init_110 rfl (by decide) w_51 rfl (by rfl) (by rfl) (fun G28 hn28 ho28 => ?_)
  have hn28 : G28 (m + 14) = some (.inl (0, 15, .inl (fun _ => 0))) := hn28
  show pV Γ _ _ _ (.ref (m + 14) :: _) (m + 15) _ _ _ _
  have hH := (ho28 _ (by omega)).trans hH
  have hn1 := (ho28 _ (by omega)).trans hn1
  have hn4 := (ho28 _ (by omega)).trans hn4
  have hn6 := (ho28 _ (by omega)).trans hn6
  have hn8 := (ho28 _ (by omega)).trans hn8
  have hn10 := (ho28 _ (by omega)).trans hn10
  have hn12 := (ho28 _ (by omega)).trans hn12
  have hn14 := (ho28 _ (by omega)).trans hn14
  have hn16 := (ho28 _ (by omega)).trans hn16
  have hn18 := (ho28 _ (by omega)).trans hn18
  have hn20 := (ho28 _ (by omega)).trans hn20
  have hn22 := (ho28 _ (by omega)).trans hn22
  have hn24 := (ho28 _ (by omega)).trans hn24
  have hn26 := (ho28 _ (by omega)).trans hn26
  refine V_putF d_Mo_init_112 p_Mo_54 rfl hH rfl rfl rfl (fun G29 hHz ho29 => ?_)
  have hH : G29 m = some (.inr (kMo, [.ref (m + 1), .int ((-1)), .ref (m + 2), .ref (m + 3), .ref (m + 4), .ref (m + 5), .ref (m + 6), .ref (m + 7), .ref (m + 8), .ref (m + 9), .ref (m + 10), .int 0, .ref (m + 11), .ref (m + 12), .ref (m + 13), .ref (m + 14), .null, .null, .null])) := hHz
  have hn1 := (ho29 _ (by omega)).trans hn1
  have hn4 := (ho29 _ (by omega)).trans hn4
  have hn6 := (ho29 _ (by omega)).trans hn6
  have hn8 := (ho29 _ (by omega)).trans hn8
  have hn10 := (ho29 _ (by omega)).trans hn10
  have hn12 := (ho29 _ (by omega)).trans hn12
  have hn14 := (ho29 _ (by omega)).trans hn14
  have hn16 := (ho29 _ (by omega)).trans hn16
  have hn18 := (ho29 _ (by omega)).trans hn18
  have hn20 := (ho29 _ (by omega)).trans hn20
  have hn22 := (ho29 _ (by omega)).trans hn22
  have hn24 := (ho29 _ (by omega)).trans hn24
  have hn26 := (ho29 _ (by omega)).trans hn26
  have hn28 := (ho29 _ (by omega)).trans hn28
  refine V_aload_n d_Mo_init_115 rfl ?_
  refine V_bipush (v := nI 15) d_Mo_init_116 (by decide +kernel) ?_
  refine V_newi (N := 15) d_Mo_init_118 rfl (by decide) w_51 rfl (by rfl) (by rfl) (fun G30 hn30 ho30 => ?_)
  have hn30 : G30 (m + 15) = some (.inl (0, 15, .inl (fun _ => 0))) := hn30
  show pV Γ _ _ _ (.ref (m + 15) :: _) (m + 16) _ _ _ _
  have hH := (ho30 _ (by omega)).trans hH
  have hn1 := (ho30 _ (by omega)).trans hn1
  have hn4 := (ho30 _ (by omega)).trans hn4
  have hn6 := (ho30 _ (by omega)).trans hn6
  have hn8 := (ho30 _ (by omega)).trans hn8
  have hn10 := (ho30 _ (by omega)).trans hn10
  have hn12 := (ho30 _ (by omega)).trans hn12
  have hn14 := (ho30 _ (by omega)).trans hn14
  have hn16 := (ho30 _ (by omega)).trans hn16
  have hn18 := (ho30 _ (by omega)).trans hn18
  have hn20 := (ho30 _ (by omega)).trans hn20
  have hn22 := (ho30 _ (by omega)).trans hn22
  have hn24 := (ho30 _ (by omega)).trans hn24
  have hn26 := (ho30 _ (by omega)).trans hn26
  have hn28 := (ho30 _ (by omega)).trans hn28
  refine V_putF d_Mo_init_120 p_Mo_57 rfl hH rfl rfl rfl (fun G31 hHz ho31 => ?_)
  have hH : G31 m = some (.inr (kMo, [.ref (m + 1), .int ((-1)), .ref (m + 2), .ref (m + 3), .ref (m + 4), .ref (m + 5), .ref (m + 6), .ref (m + 7), .ref (m + 8), .ref (m + 9), .ref (m + 10), .int 0, .ref (m + 11), .ref (m + 12), .ref (m + 13), .ref (m + 14), .ref (m + 15), .null, .null])) := hHz
  have hn1 := (ho31 _ (by omega)).trans hn1
  have hn4 := (ho31 _ (by omega)).trans hn4
  have hn6 := (ho31 _ (by omega)).trans hn6
  have hn8 := (ho31 _ (by omega)).trans hn8
  have hn10 := (ho31 _ (by omega)).trans hn10
  have hn12 := (ho31 _ (by omega)).trans hn12
  have hn14 := (ho31 _ (by omega)).trans hn14
  have hn16 := (ho31 _ (by omega)).trans hn16
  have hn18 := (ho31 _ (by omega)).trans hn18
  have hn20 := (ho31 _ (by omega)).trans hn20
  have hn22 := (ho31 _ (by omega)).trans hn22
  have hn24 := (ho31 _ (by omega)).trans hn24
  have hn26 := (ho31 _ (by omega)).trans hn26
  have hn28 := (ho31 _ (by omega)).trans hn28
  have hn30 := (ho31 _ (by omega)).trans hn30
  refine V_aload_n d_Mo_init_123 rfl ?_
  refine V_bipush (v := nI 15) d_Mo_init_124 (by decide +kernel) ?_
  refine V_newi (N := 15) d_Mo_init_126 rfl (by decide) w_51 rfl (by rfl) (by rfl) (fun G32 hn32 ho32 => ?_)
  have hn32 : G32 (m + 16) = some (.inl (0, 15, .inl (fun _ => 0))) := hn32
  show pV Γ _ _ _ (.ref (m + 16) :: _) (m + 17) _ _ _ _
  have hH := (ho32 _ (by omega)).trans hH
  have hn1 := (ho32 _ (by omega)).trans hn1
  have hn4 := (ho32 _ (by omega)).trans hn4
  have hn6 := (ho32 _ (by omega)).trans hn6
  have hn8 := (ho32 _ (by omega)).trans hn8
  have hn10 := (ho32 _ (by omega)).trans hn10
  have hn12 := (ho32 _ (by omega)).trans hn12
  have hn14 := (ho32 _ (by omega)).trans hn14
  have hn16 := (ho32 _ (by omega)).trans hn16
  have hn18 := (ho32 _ (by omega)).trans hn18
  have hn20 := (ho32 _ (by omega)).trans hn20
  have hn22 := (ho32 _ (by omega)).trans hn22
  have hn24 := (ho32 _ (by omega)).trans hn24
  have hn26 := (ho32 _ (by omega)).trans hn26
  have hn28 := (ho32 _ (by omega)).trans hn28
  have hn30 := (ho32 _ (by omega)).trans hn30
  refine V_putF d_Mo_init_128 p_Mo_60 rfl hH rfl rfl rfl (fun G33 hHz ho33 => ?_)
  have hH : G33 m = some (.inr (kMo, [.ref (m + 1), .int ((-1)), .ref (m + 2), .ref (m + 3), .ref (m + 4), .ref (m + 5), .ref (m + 6), .ref (m + 7), .ref (m + 8), .ref (m + 9), .ref (m + 10), .int 0, .ref (m + 11), .ref (m + 12), .ref (m + 13), .ref (m + 14), .ref (m + 15), .ref (m + 16), .null])) := hHz
  have hn1 := (ho33 _ (by omega)).trans hn1
  have hn4 := (ho33 _ (by omega)).trans hn4
  have hn6 := (ho33 _ (by omega)).trans hn6
  have hn8 := (ho33 _ (by omega)).trans hn8
  have hn10 := (ho33 _ (by omega)).trans hn10
  have hn12 := (ho33 _ (by omega)).trans hn12
  have hn14 := (ho33 _ (by omega)).trans hn14
  have hn16 := (ho33 _ (by omega)).trans hn16
  have hn18 := (ho33 _ (by omega)).trans hn18
  have hn20 := (ho33 _ (by omega)).trans hn20
  have hn22 := (ho33 _ (by omega)).trans hn22
  have hn24 := (ho33 _ (by omega)).trans hn24
  have hn26 := (ho33 _ (by omega)).trans hn26
  have hn28 := (ho33 _ (by omega)).trans hn28
  have hn30 := (ho33 _ (by omega)).trans hn30
  have hn32 := (ho33 _ (by omega)).trans hn32
  refine V_aload_n d_Mo_init_131 rfl ?_
  refine V_iconst (v := nI 3) d_Mo_init_132 (by decide +kernel) ?_
  refine V_newi (N := 3) d_Mo_init_133 rfl (by decide) w_51 rfl (by rfl) (by rfl) (fun G34 hn34 ho34 => ?_)
  have hn34 : G34 (m + 17) = some (.inl (0, 3, .inl (fun _ => 0))) := hn34
  show pV Γ _ _ _ (.ref (m + 17) :: _) (m + 18) _ _ _ _
  have hH := (ho34 _ (by omega)).trans hH
  have hn1 := (ho34 _ (by omega)).trans hn1
  have hn4 := (ho34 _ (by omega)).trans hn4
  have hn6 := (ho34 _ (by omega)).trans hn6
  have hn8 := (ho34 _ (by omega)).trans hn8
  have hn10 := (ho34 _ (by omega)).trans hn10
  have hn12 := (ho34 _ (by omega)).trans hn12
  have hn14 := (ho34 _ (by omega)).trans hn14
  have hn16 := (ho34 _ (by omega)).trans hn16
  have hn18 := (ho34 _ (by omega)).trans hn18
  have hn20 := (ho34 _ (by omega)).trans hn20
  have hn22 := (ho34 _ (by omega)).trans hn22
  have hn24 := (ho34 _ (by omega)).trans hn24
  have hn26 := (ho34 _ (by omega)).trans hn26
  have hn28 := (ho34 _ (by omega)).trans hn28
  have hn30 := (ho34 _ (by omega)).trans hn30
  have hn32 := (ho34 _ (by omega)).trans hn32
  refine V_putF d_Mo_init_135 p_Mo_63 rfl hH rfl rfl rfl (fun G35 hHz ho35 => ?_)
  have hH : G35 m = some (.inr (kMo, [.ref (m + 1), .int ((-1)), .ref (m + 2), .ref (m + 3), .ref (m + 4), .ref (m + 5), .ref (m + 6), .ref (m + 7), .ref (m + 8), .ref (m + 9), .ref (m + 10), .int 0, .ref (m + 11), .ref (m + 12), .ref (m + 13), .ref (m + 14), .ref (m + 15), .ref (m + 16), .ref (m + 17)])) := hHz
  have hn1 := (ho35 _ (by omega)).trans hn1
  have hn4 := (ho35 _ (by omega)).trans hn4
  have hn6 := (ho35 _ (by omega)).trans hn6
  have hn8 := (ho35 _ (by omega)).trans hn8
  have hn10 := (ho35 _ (by omega)).trans hn10
  have hn12 := (ho35 _ (by omega)).trans hn12
  have hn14 := (ho35 _ (by omega)).trans hn14
  have hn16 := (ho35 _ (by omega)).trans hn16
  have hn18 := (ho35 _ (by omega)).trans hn18
  have hn20 := (ho35 _ (by omega)).trans hn20
  have hn22 := (ho35 _ (by omega)).trans hn22
  have hn24 := (ho35 _ (by omega)).trans hn24
  have hn26 := (ho35 _ (by omega)).trans hn26
  have hn28 := (ho35 _ (by omega)).trans hn28
  have hn30 := (ho35 _ (by omega)).trans hn30
  have hn32 := (ho35 _ (by omega)).trans hn32
  have hn34 := (ho35 _ (by omega)).trans hn34
  refine V_aload_n d_Mo_init_138 rfl ?_
  have hF := hn1
  refine V_callV (As := []) (rest := []) (lo' := [some (.ref m), none]) (bc1 := 0) (bs1 := 0) (bc' := 0) (bs' := 0) d_Mo_init_139 k_Mo_init_66 hH rfl rfl rfl rfl (by rfl) (by rfl) ?_
  refine c_Mo_blank hH hF (fun G99 g hH' hF' hR' hx' ho' => ?_)
  show pV Γ m_Mo_init 142 [some (.ref m)] [] _ G99 0 0 Q
  exact V_return d_Mo_init_142 rfl (hQ _ _ hH' hF' hR' ((ho' _ (by omega)).trans hn4) ((ho' _ (by omega)).trans hn6) ((ho' _ (by omega)).trans hn8) ((ho' _ (by omega)).trans hn10) ((ho' _ (by omega)).trans hn12) ((ho' _ (by omega)).trans hn14) ((ho' _ (by omega)).trans hn16) ((ho' _ (by omega)).trans hn18) ((ho' _ (by omega)).trans hn20) ((ho' _ (by omega)).trans hn22) ((ho' _ (by omega)).trans hn24) ((ho' _ (by omega)).trans hn26) ((ho' _ (by omega)).trans hn28) ((ho' _ (by omega)).trans hn30) ((ho' _ (by omega)).trans hn32) ((ho' _ (by omega)).trans hn34) (fun q hq => by rw [ho' q (by omega), ho35 q (by omega), ho34 q (by omega), ho33 q (by omega), ho32 q (by omega), ho31 q (by omega), ho30 q (by omega), ho29 q (by omega), ho28 q (by omega), ho27 q (by omega), ho26 q (by omega), ho25 q (by omega), ho24 q (by omega), ho23 q (by omega), ho22 q (by omega), ho21 q (by omega), ho20 q (by omega), ho19 q (by omega), ho18 q (by omega), ho17 q (by omega), ho16 q (by omega), ho15 q (by omega), ho14 q (by omega), ho13 q (by omega), ho12 q (by omega), ho11 q (by omega), ho10 q (by omega), ho9 q (by omega), ho8 q (by omega), ho7 q (by omega), ho6 q (by omega), ho5 q (by omega), ho4 q (by omega), ho3 q (by omega), ho2 q (by omega), ho1 q (by omega)]))
