/-! The law: its making and its loop. -/
theorem zB : (fun _ : Nat => (0 : Int32)) = fun j => pB ((fun _ => false : Nat → Bool) j = true) := by
  funext j
  show (0 : Int32) = pB (false = true)
  rw [pB_f (by decide)]
  rfl
theorem mo_init {G : pmG} {m : Nat} {g : Nat → Int32} {bt : Nat → Int32 × Dfn} {fr : Nat → Frm} (hH : G m = some (.inr (kMo, moFs m (-1) (nI 0)))) (hF : G (m + 1) = some (.inl (0, 4387, .inl g))) (hR : isRow g 0 dBlk) (hCu : G (m + 2) = some (.inl (0, 6, .inl (fun _ => 0)))) (hNu : G (m + 3) = some (.inl (0, 6, .inl (fun _ => 0)))) (hNo : G (m + 4) = some (.inl (0, 41, .inl (fun _ => 0)))) (hCo : G (m + 5) = some (.inl (0, 41, .inl (fun _ => 0)))) (hTk : G (m + 6) = some (.inl (1, 5, .inl (fun _ => 0)))) (hKd : G (m + 7) = some (.inl (0, 5, .inl (fun _ => 0)))) (hVl : G (m + 8) = some (.inl (0, 5, .inl (fun _ => 0)))) (hOn : G (m + 9) = some (.inl (0, 5, .inl (fun _ => 0)))) (hRp : G (m + 10) = some (.inl (1, 5, .inl (fun _ => 0)))) (hMe : G (m + 11) = some (.inl (0, 3, .inl (fun _ => 0)))) (hDp : G (m + 12) = some (.inl (0, 3, .inl (fun _ => 0)))) (hFr : G (m + 13) = some (.inl (0, 15, .inl (fun _ => 0)))) (hFm : G (m + 14) = some (.inl (0, 15, .inl (fun _ => 0)))) (hPl : G (m + 15) = some (.inl (0, 15, .inl (fun _ => 0)))) (hSm : G (m + 16) = some (.inl (0, 15, .inl (fun _ => 0)))) (hRs : G (m + 17) = some (.inl (0, 3, .inl (fun _ => 0)))) : isMo G m dBlk none (fun _ => none) (fun _ => (false, 0, nI 0, -1, false)) 0 bt (fun _ => (0, fr, nI 0)) 0 := by
  have hin : ∀ r, ¬ (17 ≤ r ∧ inUs (fun _ => 0) (fun _ => 0) (fun _ => 0) r) := fun r h => by
    rcases h.2 with ⟨t, k, _, hk, _⟩ | ⟨c, _, e⟩
    · exact absurd hk (Nat.not_lt_zero _)
    · have e : 0 = r := e
      have := h.1
      omega
  exact ⟨g, fun _ => 0, fun _ => 0, fun _ => 0, fun _ => 0, fun _ => false, fun _ => 0, fun _ => 0, fun _ => 0, fun _ => false, fun _ => 0, fun _ => 0, fun _ => 0, fun _ => 0, fun _ => 0, fun _ => 0, fun _ => 0, ⟨hH, hF, hCu, hNu, hNo, hCo, (by rw [hTk, zB]), hKd, hVl, hOn, (by rw [hRp, zB]), hMe, hDp, hFr, hFm, hPl, hSm, hRs⟩, hR, ⟨fun c hc => ⟨fun L hL => (by cases hL), fun _ => rfl⟩, fun c hc => ⟨fun L hL => (by cases hL), fun _ => rfl⟩⟩, fun k hk => ⟨rfl, Nat.zero_le _, fun e => (by cases e)⟩, ⟨Nat.zero_le _, fun i hi => absurd hi (Nat.not_lt_zero _)⟩, fun t ht => ⟨rfl, Nat.zero_le _, rfl, fun k hk => absurd hk (Nat.not_lt_zero _)⟩, ⟨fun q hq => (by show 0 < 41; omega), fun r hr => (by show 0 < 6; omega), fun r h1 h2 => absurd ⟨h1, h2⟩ (hin r), fun r r' h1 h2 h3 => absurd ⟨h1, h3⟩ (hin r), fun c hc => Nat.le_refl _⟩⟩
theorem lw_gt {L a : Nat} (hL : L ≤ 2560) (ha : a < 2 ^ 30) : nI L - nI 5 < nI a ↔ L < a + 5 := by
  rw [Int32.lt_iff_toInt_lt, pk_sub_toInt (by omega) (by omega), nI_toInt (by omega)]
  omega
theorem lw_inc (k : Nat) : nI (5 * k) + Int32.ofInt 5 = nI (5 * (k + 1)) := by
  show nI (5 * k) + nI 5 = _
  rw [nI_add, show 5 * k + 5 = 5 * (k + 1) by omega]
set_option maxHeartbeats 1000000 in
theorem lw_loop {Γ : pmE} {Q : pmPost} {h : Nat} (hL : Γ.2.2.2.2.1 ≤ 2560) (hQ : ∀ n' G', Q (some (.int (nI 1))) n' G') : ∀ (d k : Nat), 512 - k < d → k ≤ 512 → ∀ (n : Nat) (G : pmG) (bc bs : Nat), lwS G h n (3 * k) → 35 * (512 - k) ≤ bc → 249 * (512 - k) ≤ bs → h + 238 ≤ n → pV Γ m_Lw_law 18 [some (.ref Γ.2.2.2.1), some (.ref h), some (.ref (h + 220)), some (.int (nI (5 * k)))] [] n G bc bs Q := by
  intro d
  induction d with
  | zero => intro k hd; exact absurd hd (by omega)
  | succ d ih =>
    intro k hd hk n G bc bs hS hbc hbs hn
    refine V_iload_n d_Lw_law_18 rfl ?_
    refine V_aload_n d_Lw_law_19 rfl ?_
    refine V_slen d_Lw_law_20 ?_
    refine V_iconst (v := nI 5) d_Lw_law_21 (by decide +kernel) ?_
    refine V_isub d_Lw_law_22 ?_
    refine V_icmp_gt (tgt := 708) d_Lw_law_23 (by decide) (fun e => ?_) (fun e => ?_)
    · refine V_iconst (v := nI 1) d_Lw_law_708 (by decide +kernel) ?_
      exact V_zreturn d_Lw_law_709 rfl (Or.inr rfl) (hQ _ _)
    · rw [lw_gt hL (by omega)] at e
      refine V_aload_n d_Lw_law_26 rfl ?_
      refine V_iload_n d_Lw_law_27 rfl ?_
      refine V_sld (j := 5 * k) d_Lw_law_28 rfl (by omega) (by omega) ?_
      refine V_bipush (v := nI 31) d_Lw_law_29 (by decide +kernel) ?_
      refine V_iand d_Lw_law_31 ?_
      obtain ⟨a, ha, ea⟩ := pk_andE (Γ.2.2.2.2.2 (5 * k)) (m := nI 31) 5 (by decide +kernel)
      rw [ea]
      have hbc2 : 35 * (512 - (k + 1)) + 35 ≤ bc := by omega
      have hbs2 : 249 * (512 - (k + 1)) + 249 ≤ bs := by omega
      have next : ∀ n' G' bc' bs', lwS G' h n' (3 * k + 3) → 35 * (512 - (k + 1)) ≤ bc' → 249 * (512 - (k + 1)) ≤ bs' → h + 238 ≤ n' → pV Γ m_Lw_law 702 [some (.ref Γ.2.2.2.1), some (.ref h), some (.ref (h + 220)), some (.int (nI (5 * k)))] [] n' G' bc' bs' Q := by
        intro n' G' bc' bs' hS' hbc' hbs' hn'
        refine V_iinc d_Lw_law_702 rfl (lw_inc k) ?_
        refine V_goto (tgt := 18) d_Lw_law_705 (by decide) ?_
        exact ih (k + 1) (by omega) (by omega) n' G' bc' bs' (by rw [show 3 * (k + 1) = 3 * k + 3 by omega]; exact hS') hbc' hbs' hn'
      have hcs : a = 0 ∨ a = 1 ∨ a = 2 ∨ a = 3 ∨ a = 4 ∨ a = 5 ∨ a = 6 ∨ a = 7 ∨ a = 8 ∨ a = 9 ∨ a = 10 ∨ a = 11 ∨ a = 12 ∨ a = 13 ∨ a = 14 ∨ a = 15 ∨ a = 16 ∨ a = 17 ∨ a = 18 ∨ a = 19 ∨ 20 ≤ a := by omega
      rcases hcs with rfl | rfl | rfl | rfl | rfl | rfl | rfl | rfl | rfl | rfl | rfl | rfl | rfl | rfl | rfl | rfl | rfl | rfl | rfl | rfl | h20
      · refine V_tableIn (tgt := 128) (off := 96) d_Lw_law_32 (by decide +kernel) (by decide +kernel) (by decide +kernel) (by decide +kernel) ?_
        exact lw_case0 hL (by omega) (by omega) hbc2 hbs2 hn hS next
      · refine V_tableIn (tgt := 139) (off := 107) d_Lw_law_32 (by decide +kernel) (by decide +kernel) (by decide +kernel) (by decide +kernel) ?_
        exact lw_case1 hL (by omega) (by omega) hbc2 hbs2 hn hS next
      · refine V_tableIn (tgt := 162) (off := 130) d_Lw_law_32 (by decide +kernel) (by decide +kernel) (by decide +kernel) (by decide +kernel) ?_
        exact lw_case2 hL (by omega) (by omega) hbc2 hbs2 hn hS next
      · refine V_tableIn (tgt := 195) (off := 163) d_Lw_law_32 (by decide +kernel) (by decide +kernel) (by decide +kernel) (by decide +kernel) ?_
        exact lw_case3 hL (by omega) (by omega) hbc2 hbs2 hn hS next
      · refine V_tableIn (tgt := 218) (off := 186) d_Lw_law_32 (by decide +kernel) (by decide +kernel) (by decide +kernel) (by decide +kernel) ?_
        exact lw_case4 hL (by omega) (by omega) hbc2 hbs2 hn hS next
      · refine V_tableIn (tgt := 261) (off := 229) d_Lw_law_32 (by decide +kernel) (by decide +kernel) (by decide +kernel) (by decide +kernel) ?_
        exact lw_case5 hL (by omega) (by omega) hbc2 hbs2 hn hS next
      · refine V_tableIn (tgt := 294) (off := 262) d_Lw_law_32 (by decide +kernel) (by decide +kernel) (by decide +kernel) (by decide +kernel) ?_
        exact lw_case6 hL (by omega) (by omega) hbc2 hbs2 hn hS next
      · refine V_tableIn (tgt := 317) (off := 285) d_Lw_law_32 (by decide +kernel) (by decide +kernel) (by decide +kernel) (by decide +kernel) ?_
        exact lw_case7 hL (by omega) (by omega) hbc2 hbs2 hn hS next
      · refine V_tableIn (tgt := 360) (off := 328) d_Lw_law_32 (by decide +kernel) (by decide +kernel) (by decide +kernel) (by decide +kernel) ?_
        exact lw_case8 hL (by omega) (by omega) hbc2 hbs2 hn hS next
      · refine V_tableIn (tgt := 373) (off := 341) d_Lw_law_32 (by decide +kernel) (by decide +kernel) (by decide +kernel) (by decide +kernel) ?_
        exact lw_case9 hL (by omega) (by omega) hbc2 hbs2 hn hS next
      · refine V_tableIn (tgt := 442) (off := 410) d_Lw_law_32 (by decide +kernel) (by decide +kernel) (by decide +kernel) (by decide +kernel) ?_
        exact lw_case10 hL (by omega) (by omega) hbc2 hbs2 hn hS next
      · refine V_tableIn (tgt := 465) (off := 433) d_Lw_law_32 (by decide +kernel) (by decide +kernel) (by decide +kernel) (by decide +kernel) ?_
        exact lw_case11 hL (by omega) (by omega) hbc2 hbs2 hn hS next
      · refine V_tableIn (tgt := 488) (off := 456) d_Lw_law_32 (by decide +kernel) (by decide +kernel) (by decide +kernel) (by decide +kernel) ?_
        exact lw_case12 hL (by omega) (by omega) hbc2 hbs2 hn hS next
      · refine V_tableIn (tgt := 501) (off := 469) d_Lw_law_32 (by decide +kernel) (by decide +kernel) (by decide +kernel) (by decide +kernel) ?_
        exact lw_case13 hL (by omega) (by omega) hbc2 hbs2 hn hS next
      · refine V_tableIn (tgt := 524) (off := 492) d_Lw_law_32 (by decide +kernel) (by decide +kernel) (by decide +kernel) (by decide +kernel) ?_
        exact lw_case14 hL (by omega) (by omega) hbc2 hbs2 hn hS next
      · refine V_tableIn (tgt := 567) (off := 535) d_Lw_law_32 (by decide +kernel) (by decide +kernel) (by decide +kernel) (by decide +kernel) ?_
        exact lw_case15 hL (by omega) (by omega) hbc2 hbs2 hn hS next
      · refine V_tableIn (tgt := 600) (off := 568) d_Lw_law_32 (by decide +kernel) (by decide +kernel) (by decide +kernel) (by decide +kernel) ?_
        exact lw_case16 hL (by omega) (by omega) hbc2 hbs2 hn hS next
      · refine V_tableIn (tgt := 633) (off := 601) d_Lw_law_32 (by decide +kernel) (by decide +kernel) (by decide +kernel) (by decide +kernel) ?_
        exact lw_case17 hL (by omega) (by omega) hbc2 hbs2 hn hS next
      · refine V_tableIn (tgt := 656) (off := 624) d_Lw_law_32 (by decide +kernel) (by decide +kernel) (by decide +kernel) (by decide +kernel) ?_
        exact lw_case18 hL (by omega) (by omega) hbc2 hbs2 hn hS next
      · refine V_tableIn (tgt := 679) (off := 647) d_Lw_law_32 (by decide +kernel) (by decide +kernel) (by decide +kernel) (by decide +kernel) ?_
        exact lw_case19 hL (by omega) (by omega) hbc2 hbs2 hn hS next
      · have hN0 : Γ.2.2.2.2.1 ≤ 2560 := hL
        refine V_tableOut (tgt := 702) d_Lw_law_32 (Or.inr (by rw [nI_toInt (by omega)]; omega)) (by decide +kernel) ?_
        obtain ⟨f, D, ch, ld, trs, nb, bt, th, dk, mo, iv⟩ := hS
        exact next _ _ _ _ ⟨_, _, _, _, _, _, _, _, dk, mo.mono (by omega), iv⟩ (by omega) (by omega) hn
set_option maxHeartbeats 1000000 in
theorem c_law {Γ : pmE} {n : Nat} {Q : pmPost} (hL : Γ.2.2.2.2.1 ≤ 2560) (hQ : ∀ n' G', Q (some (.int (nI 1))) n' G') : pV Γ m_Lw_law 0 [some (.ref Γ.2.2.2.1), none, none, none] [] n (fun _ => none) 600000 7302250 Q := by
  refine V_new (bc' := 599999) (bs' := 7302242) d_Lw_law_0 n_Lw_7 (by decide) (by decide) (fun G1 hn1 ho1 => ?_)
  refine V_dup d_Lw_law_3 rfl ?_
  refine V_callI (As := []) (rest := [.ref n]) (lo' := [some (.ref n), none]) (bc1 := 219) (bs1 := 1562) (bc' := 599780) (bs' := 7300680) d_Lw_law_4 k_Lw_law_9 rfl rfl rfl rfl (by decide) (by decide) ?_
  refine c_HE_init (lo := n + 238) (bt := fun _ => (nI 0, dBlk)) (fr := fun _ => (nI 0, nI 0, 0, fun _ => 0, 0, nI 0)) (Nat.le_refl _) (by omega) hn1 (fun G2 dk ho2 => ?_)
  show pV Γ m_Lw_law 7 [some (.ref Γ.2.2.2.1), none, none, none] [.ref n] (n + 220) G2 599780 7300680 Q
  refine V_astore_n d_Lw_law_7 (Nat.le_of_ble_eq_true rfl) ?_
  show pV Γ m_Lw_law 8 [some (.ref Γ.2.2.2.1), some (.ref n), none, none] [] (n + 220) G2 599780 7300680 Q
  refine V_new (bc' := 599779) (bs' := 7300661) d_Lw_law_8 n_Lw_10 (by decide) (by decide) (fun G3 hn3 ho3 => ?_)
  refine V_dup d_Lw_law_11 rfl ?_
  refine V_callI (As := []) (rest := [.ref (n + 220)]) (lo' := [some (.ref (n + 220))]) (bc1 := 17) (bs1 := 4575) (bc' := 599762) (bs' := 7296086) d_Lw_law_12 k_Lw_law_12 rfl rfl rfl rfl (by decide) (by decide) ?_
  refine c_Mo_init (n := 0) (m := n + 220) hn3 (fun G4 g hH hF hR hCu hNu hNo hCo hTk hKd hVl hOn hRp hMe hDp hFr hFm hPl hSm hRs ho4 => ?_)
  have mo := mo_init (bt := fun _ => (nI 0, dBlk)) (fr := fun _ => (nI 0, nI 0, 0, fun _ => 0, 0, nI 0)) hH hF hR hCu hNu hNo hCo hTk hKd hVl hOn hRp hMe hDp hFr hFm hPl hSm hRs
  have dk := dk.kept (G' := G4) (fun q hq => by rw [ho4 q (by omega), ho3 q (by omega)])
  show pV Γ m_Lw_law 15 [some (.ref Γ.2.2.2.1), some (.ref n), none, none] [.ref (n + 220)] (n + 238) G4 599762 7296086 Q
  refine V_astore_n d_Lw_law_15 (Nat.le_of_ble_eq_true rfl) ?_
  show pV Γ m_Lw_law 16 [some (.ref Γ.2.2.2.1), some (.ref n), some (.ref (n + 220)), none] [] (n + 238) G4 599762 7296086 Q
  refine V_iconst (v := nI 0) d_Lw_law_16 (by decide +kernel) ?_
  refine V_istore_n d_Lw_law_17 (Nat.le_of_ble_eq_true rfl) ?_
  show pV Γ m_Lw_law 18 [some (.ref Γ.2.2.2.1), some (.ref n), some (.ref (n + 220)), some (.int (nI (5 * 0)))] [] (n + 238) G4 599762 7296086 Q
  exact lw_loop hL hQ 513 0 (by omega) (by omega) (n + 238) G4 _ _ ⟨_, _, _, _, _, _, _, _, dk, mo, ⟨fun i hi => absurd hi (Nat.not_lt_zero _), fun c L hc hl => (by cases hl), fun t ht k hk => absurd hk (Nat.not_lt_zero _)⟩⟩ (by omega) (by omega) (by omega)
