/-! The reference: plainRules and what it asks. -/
theorem pig : ∀ (n : Nat) (f : Nat → Nat), (∀ i, i ≤ n → f i < n) → ∃ a b, a < b ∧ b ≤ n ∧ f a = f b
  | 0, f, h => absurd (h 0 (Nat.le_refl _)) (Nat.not_lt_zero _)
  | n + 1, f, h => by
    by_cases hx : ∃ i, i ≤ n ∧ f i = f (n + 1)
    · obtain ⟨i, hi, e⟩ := hx
      exact ⟨i, n + 1, by omega, by omega, e⟩
    · obtain ⟨a, b, h1, h2, h3⟩ := pig n (fun i => if f i = n then f (n + 1) else f i) (fun i hi => by
        have hn : f i ≠ f (n + 1) := fun e => hx ⟨i, hi, e⟩
        have h1 := h i (by omega)
        have h2 := h (n + 1) (Nat.le_refl _)
        show (if f i = n then f (n + 1) else f i) < n
        split
        · omega
        · omega)
      have ha : f a ≠ f (n + 1) := fun e => hx ⟨a, by omega, e⟩
      have hb : f b ≠ f (n + 1) := fun e => hx ⟨b, by omega, e⟩
      refine ⟨a, b, h1, by omega, ?_⟩
      split at h3 <;> split at h3 <;> omega
def pAt (ld : LdS) : Nat → Int32 → Int32 → Prop
  | 0, x, y => x = y
  | t + 1, x, y => ∃ c L, c < 6 ∧ x = nI c ∧ ld c = some L ∧ pAt ld t (dP L.2.1 2) y
theorem pMeet_at (ld : LdS) (nm : Int32) : ∀ (k : Nat) (x : Int32), pMeet ld nm k x ↔ ∃ t, t < k ∧ pAt ld t x nm
  | 0, x => ⟨fun h => h.elim, fun ⟨t, h, _⟩ => absurd h (Nat.not_lt_zero _)⟩
  | k + 1, x => by
    constructor
    · rintro (h | ⟨c, L, hc, hx, hl, h⟩)
      · exact ⟨0, by omega, h⟩
      · obtain ⟨t, ht, h⟩ := (pMeet_at ld nm k _).mp h
        exact ⟨t + 1, by omega, c, L, hc, hx, hl, h⟩
    · rintro ⟨t, ht, h⟩
      cases t with
      | zero => exact Or.inl h
      | succ t =>
        obtain ⟨c, L, hc, hx, hl, h⟩ := h
        exact Or.inr ⟨c, L, hc, hx, hl, (pMeet_at ld nm k _).mpr ⟨t, by omega, h⟩⟩
theorem pAt_split (ld : LdS) : ∀ (s t : Nat) (x z : Int32), pAt ld (s + t) x z → ∃ y, pAt ld s x y ∧ pAt ld t y z
  | 0, t, x, z, h => ⟨x, rfl, by rw [Nat.zero_add] at h; exact h⟩
  | s + 1, t, x, z, h => by
    rw [show s + 1 + t = (s + t) + 1 by omega] at h
    obtain ⟨c, L, hc, hx, hl, h⟩ := h
    obtain ⟨y, h1, h2⟩ := pAt_split ld s t _ z h
    exact ⟨y, ⟨c, L, hc, hx, hl, h1⟩, h2⟩
theorem pAt_join (ld : LdS) : ∀ (s t : Nat) (x y z : Int32), pAt ld s x y → pAt ld t y z → pAt ld (s + t) x z
  | 0, t, x, y, z, h, k => by rw [Nat.zero_add]; rw [show x = y from h]; exact k
  | s + 1, t, x, y, z, h, k => by
    rw [show s + 1 + t = (s + t) + 1 by omega]
    obtain ⟨c, L, hc, hx, hl, h⟩ := h
    exact ⟨c, L, hc, hx, hl, pAt_join ld s t _ y z h k⟩
theorem pAt_short (ld : LdS) (x nm : Int32) : ∀ (t : Nat), pAt ld t x nm → ∃ s, s < 7 ∧ pAt ld s x nm := by
  intro t
  induction t using Nat.strongRecOn with
  | ind t ih =>
    intro h
    by_cases ht : t < 7
    · exact ⟨t, ht, h⟩
    · have hc : ∀ i, ∃ c, i ≤ 6 → c < 6 ∧ pAt ld i x (nI c) ∧ pAt ld (t - i) (nI c) nm := by
        intro i
        by_cases hi : i ≤ 6
        · obtain ⟨y, h1, h2⟩ := pAt_split ld i (t - i) x nm (by rw [show i + (t - i) = t by omega]; exact h)
          have h3 := h2
          rw [show t - i = (t - i - 1) + 1 by omega] at h3
          obtain ⟨c, L, hc, hx, -⟩ := h3
          exact ⟨c, fun _ => ⟨hc, by rw [← hx]; exact h1, by rw [← hx]; exact h2⟩⟩
        · exact ⟨0, fun q => absurd q hi⟩
      obtain ⟨a, b, h1, h2, h3⟩ := pig 6 (fun i => Classical.choose (hc i)) (fun i hi => (Classical.choose_spec (hc i) hi).1)
      have ha := Classical.choose_spec (hc a) (by omega)
      have hb := Classical.choose_spec (hc b) h2
      rw [← h3] at hb
      exact ih (a + (t - b)) (by omega) (pAt_join ld a (t - b) x _ nm ha.2.1 hb.2.2)
theorem pMeet_7 (ld : LdS) (nm x : Int32) : pMeet ld nm 11 x ↔ pMeet ld nm 7 x := by
  rw [pMeet_at, pMeet_at]
  constructor
  · rintro ⟨t, -, h⟩
    exact pAt_short ld x nm t h
  · rintro ⟨t, ht, h⟩
    exact ⟨t, by omega, h⟩
def moL (f : Nat → Int32) (cu : Nat → Nat) (ld : LdS) : Prop := ∀ c, c < 6 → (∀ L, ld c = some L → 17 ≤ cu c ∧ cu c < 41 ∧ isRow f (cu c) L.2.1) ∧ (ld c = none → cu c = 0)
theorem moL.lt {f : Nat → Int32} {cu : Nat → Nat} {ld : LdS} (h : moL f cu ld) : ∀ c, c < 6 → cu c < 41 := fun c hc => by
  cases hl : ld c with
  | none => rw [(h c hc).2 hl]; omega
  | some L => exact ((h c hc).1 L hl).2.1
theorem moL.pos {f : Nat → Int32} {cu : Nat → Nat} {ld : LdS} (h : moL f cu ld) {c : Nat} (hc : c < 6) : 0 < cu c ↔ ∃ L, ld c = some L := by
  cases hl : ld c with
  | none => rw [(h c hc).2 hl]; exact ⟨fun q => absurd q (by omega), fun ⟨L, q⟩ => by cases q⟩
  | some L => exact ⟨fun _ => ⟨L, rfl⟩, fun _ => by have := ((h c hc).1 L hl).1; omega⟩
theorem moL.ldd {f : Nat → Int32} {cu : Nat → Nat} {ld : LdS} (h : moL f cu ld) (x : Int32) : (∃ c, c < 6 ∧ x = nI c ∧ 0 < cu c) ↔ pLd ld x :=
  ⟨fun ⟨c, hc, hx, h0⟩ => ⟨c, hc, hx, (h.pos hc).mp h0⟩, fun ⟨c, hc, hx, hL⟩ => ⟨c, hc, hx, (h.pos hc).mpr hL⟩⟩
def dup2 (g : Nat → Int32) (i j : Nat) : Prop := pDup i g ∨ ∃ k, k < j ∧ g i = g k
theorem dup2_0 (g : Nat → Int32) (i : Nat) : dup2 g i 0 ↔ pDup i g := ⟨fun h => h.elim id (fun ⟨k, hk, _⟩ => absurd hk (by omega)), Or.inl⟩
theorem dup2_n (g : Nat → Int32) (i : Nat) : dup2 g i i ↔ pDup (i + 1) g := by
  constructor
  · rintro (⟨a, b, h1, h2, h3⟩ | ⟨k, hk, e⟩)
    · exact ⟨a, b, h1, by omega, h3⟩
    · exact ⟨i, k, hk, by omega, e⟩
  · rintro ⟨a, b, h1, h2, h3⟩
    by_cases e : a = i
    · subst e; exact Or.inr ⟨b, h1, h3⟩
    · exact Or.inl ⟨a, b, h1, by omega, h3⟩
theorem dup2_s (g : Nat → Int32) (i j : Nat) : dup2 g i (j + 1) ↔ (dup2 g i j ∨ g i = g j) := by
  constructor
  · rintro (h | ⟨k, hk, e⟩)
    · exact Or.inl (Or.inl h)
    · by_cases q : k = j
      · subst q; exact Or.inr e
      · exact Or.inl (Or.inr ⟨k, by omega, e⟩)
  · rintro ((h | ⟨k, hk, e⟩) | e)
    · exact Or.inl h
    · exact Or.inr ⟨k, by omega, e⟩
    · exact Or.inr ⟨j, by omega, e⟩
theorem pDup_0 (g : Nat → Int32) : ¬ pDup 0 g := fun ⟨_, _, _, h, _⟩ => absurd h (Nat.not_lt_zero _)
set_option maxHeartbeats 1000000 in
theorem c_Mo_twice {Γ : pmE} {G : pmG} {n : Nat} {Q : pmPost} {m : Nat} {ch ba : Int32} {f : Nat → Int32} {r a w c : Nat} (hH : G m = some (.inr (kMo, moFs m ch ba))) (hF : G (m + 1) = some (.inl (0, 4387, .inl f))) (hr : r < 41) (hc : c ≤ 4) (hb : ∀ i, i < c → a + w * i < 107) (hQ : Q (some (.int (pB (pDup c (fun i => f (107 * r + (a + w * i))))))) n G) : pV Γ m_Mo_twice 0 [some (.ref m), some (.int (nI r)), some (.int (nI a)), some (.int (nI w)), some (.int (nI c)), none, none, none] [] n G 0 0 Q := by
  have loop : ∀ (d i : Nat), i ≤ c → c - i < d → ∀ (x5 : Int32) (w7 : Option Value), x5 = pB (pDup i (fun i => f (107 * r + (a + w * i)))) → pV Γ m_Mo_twice 6 [some (.ref m), some (.int (nI r)), some (.int (nI a)), some (.int (nI w)), some (.int (nI c)), some (.int x5), some (.int (nI i)), w7] [] n G 0 0 Q := by
    intro d
    induction d with
    | zero => intro i _ hd; exact absurd hd (by omega)
    | succ d ih =>
      intro i hi hd x5 w7 h5
      subst h5
      refine V_iload d_Mo_twice_6 rfl ?_
      refine V_iload d_Mo_twice_8 rfl ?_
      refine V_icmp_geN (tgt := 72) d_Mo_twice_10 (by decide) (by omega) (by omega) (fun hb10 => ?_) (fun hb10 => ?_)
      · refine V_iload d_Mo_twice_72 rfl ?_
        exact V_zreturn d_Mo_twice_74 rfl (by first | exact pB_or _ | exact Or.inl rfl | exact Or.inr rfl) (by rw [show i = c by omega]; exact hQ)
      · refine V_iconst (v := nI 0) d_Mo_twice_13 (by decide +kernel) ?_
        refine V_istore d_Mo_twice_14 (Nat.le_of_ble_eq_true rfl) ?_
        show pV Γ _ _ [some (.ref m), some (.int (nI r)), some (.int (nI a)), some (.int (nI w)), some (.int (nI c)), some (.int (pB (pDup i (fun i => f (107 * r + (a + w * i)))))), some (.int (nI i)), some (.int (nI 0))] _ _ _ _ _ _
        have inner : ∀ (d2 j : Nat), j ≤ i → i - j < d2 → ∀ x5 : Int32, x5 = pB (dup2 (fun i => f (107 * r + (a + w * i))) i j) → pV Γ m_Mo_twice 16 [some (.ref m), some (.int (nI r)), some (.int (nI a)), some (.int (nI w)), some (.int (nI c)), some (.int x5), some (.int (nI i)), some (.int (nI j))] [] n G 0 0 Q := by
          intro d2
          induction d2 with
          | zero => intro j _ hd2; exact absurd hd2 (by omega)
          | succ d2 ih2 =>
            intro j hj hd2 x5 h5
            subst h5
            refine V_iload d_Mo_twice_16 rfl ?_
            refine V_iload d_Mo_twice_18 rfl ?_
            refine V_icmp_geN (tgt := 66) d_Mo_twice_20 (by decide) (by omega) (by omega) (fun hb20 => ?_) (fun hb20 => ?_)
            · refine V_iincN d_Mo_twice_66 rfl ?_
              show pV Γ _ _ [some (.ref m), some (.int (nI r)), some (.int (nI a)), some (.int (nI w)), some (.int (nI c)), some (.int (pB (dup2 (fun i => f (107 * r + (a + w * i))) i j))), some (.int (nI (i + 1))), some (.int (nI j))] _ _ _ _ _ _
              refine V_goto (tgt := 6) d_Mo_twice_69 (by decide) ?_
              exact ih (i + 1) (by omega) (by omega) _ _ (pB_c (by rw [show j = i by omega]; exact dup2_n _ i))
            · refine V_iload d_Mo_twice_23 rfl ?_
              refine V_if_neB (tgt := 53) d_Mo_twice_25 (by decide) (fun hb25 => ?_) (fun hb25 => ?_)
              · refine V_iconst (v := nI 1) d_Mo_twice_53 (by decide +kernel) ?_
                refine V_goto (tgt := 58) d_Mo_twice_54 (by decide) ?_
                refine V_istore d_Mo_twice_58 (Nat.le_of_ble_eq_true rfl) ?_
                show pV Γ _ _ [some (.ref m), some (.int (nI r)), some (.int (nI a)), some (.int (nI w)), some (.int (nI c)), some (.int (nI 1)), some (.int (nI i)), some (.int (nI j))] _ _ _ _ _ _
                refine V_iincN d_Mo_twice_60 rfl ?_
                show pV Γ _ _ [some (.ref m), some (.int (nI r)), some (.int (nI a)), some (.int (nI w)), some (.int (nI c)), some (.int (nI 1)), some (.int (nI i)), some (.int (nI (j + 1)))] _ _ _ _ _ _
                refine V_goto (tgt := 16) d_Mo_twice_63 (by decide) ?_
                exact ih2 (j + 1) (by omega) (by omega) _ (pB_t ((dup2_s _ i j).mpr (by first | exact Or.inl hb25 | exact Or.inr hb50))).symm
              · refine V_aload_n d_Mo_twice_28 rfl ?_
                refine V_iload_n d_Mo_twice_29 rfl ?_
                refine V_iload_n d_Mo_twice_30 rfl ?_
                refine V_iload_n d_Mo_twice_31 rfl ?_
                refine V_iload d_Mo_twice_32 rfl ?_
                refine V_imulN d_Mo_twice_34 ?_
                refine V_iaddN d_Mo_twice_35 ?_
                refine V_callV (As := [.int (nI r), .int (nI (a + (w * i)))]) (rest := []) (lo' := [some (.ref m), some (.int (nI r)), some (.int (nI (a + (w * i))))]) (bc1 := 0) (bs1 := 0) (bc' := 0) (bs' := 0) d_Mo_twice_36 k_Mo_twice_69 hH rfl rfl rfl rfl (by rfl) (by rfl) ?_
                refine c_Mo_get hH hF (by have := hb i (by omega); omega) ?_
                show pV Γ m_Mo_twice 39 [some (.ref m), some (.int (nI r)), some (.int (nI a)), some (.int (nI w)), some (.int (nI c)), some (.int (pB (dup2 (fun i => f (107 * r + (a + w * i))) i j))), some (.int (nI i)), some (.int (nI j))] [.int ((f (107 * r + (a + w * i))))] _ G 0 0 Q
                refine V_aload_n d_Mo_twice_39 rfl ?_
                refine V_iload_n d_Mo_twice_40 rfl ?_
                refine V_iload_n d_Mo_twice_41 rfl ?_
                refine V_iload_n d_Mo_twice_42 rfl ?_
                refine V_iload d_Mo_twice_43 rfl ?_
                refine V_imulN d_Mo_twice_45 ?_
                refine V_iaddN d_Mo_twice_46 ?_
                refine V_callV (As := [.int (nI r), .int (nI (a + (w * j)))]) (rest := [.int ((f (107 * r + (a + w * i))))]) (lo' := [some (.ref m), some (.int (nI r)), some (.int (nI (a + (w * j))))]) (bc1 := 0) (bs1 := 0) (bc' := 0) (bs' := 0) d_Mo_twice_47 k_Mo_twice_69 hH rfl rfl rfl rfl (by rfl) (by rfl) ?_
                refine c_Mo_get hH hF (by have := hb j (by omega); omega) ?_
                show pV Γ m_Mo_twice 50 [some (.ref m), some (.int (nI r)), some (.int (nI a)), some (.int (nI w)), some (.int (nI c)), some (.int (pB (dup2 (fun i => f (107 * r + (a + w * i))) i j))), some (.int (nI i)), some (.int (nI j))] [.int ((f (107 * r + (a + w * j)))), .int ((f (107 * r + (a + w * i))))] _ G 0 0 Q
                refine V_icmp_ne (tgt := 57) d_Mo_twice_50 (by decide) (fun hb50 => ?_) (fun hb50 => ?_)
                · refine V_iconst (v := nI 0) d_Mo_twice_57 (by decide +kernel) ?_
                  refine V_istore d_Mo_twice_58 (Nat.le_of_ble_eq_true rfl) ?_
                  show pV Γ _ _ [some (.ref m), some (.int (nI r)), some (.int (nI a)), some (.int (nI w)), some (.int (nI c)), some (.int (nI 0)), some (.int (nI i)), some (.int (nI j))] _ _ _ _ _ _
                  refine V_iincN d_Mo_twice_60 rfl ?_
                  show pV Γ _ _ [some (.ref m), some (.int (nI r)), some (.int (nI a)), some (.int (nI w)), some (.int (nI c)), some (.int (nI 0)), some (.int (nI i)), some (.int (nI (j + 1)))] _ _ _ _ _ _
                  refine V_goto (tgt := 16) d_Mo_twice_63 (by decide) ?_
                  exact ih2 (j + 1) (by omega) (by omega) _ (pB_f (fun e => ((dup2_s _ i j).mp e).elim hb25 hb50)).symm
                · refine V_iconst (v := nI 1) d_Mo_twice_53 (by decide +kernel) ?_
                  refine V_goto (tgt := 58) d_Mo_twice_54 (by decide) ?_
                  refine V_istore d_Mo_twice_58 (Nat.le_of_ble_eq_true rfl) ?_
                  show pV Γ _ _ [some (.ref m), some (.int (nI r)), some (.int (nI a)), some (.int (nI w)), some (.int (nI c)), some (.int (nI 1)), some (.int (nI i)), some (.int (nI j))] _ _ _ _ _ _
                  refine V_iincN d_Mo_twice_60 rfl ?_
                  show pV Γ _ _ [some (.ref m), some (.int (nI r)), some (.int (nI a)), some (.int (nI w)), some (.int (nI c)), some (.int (nI 1)), some (.int (nI i)), some (.int (nI (j + 1)))] _ _ _ _ _ _
                  refine V_goto (tgt := 16) d_Mo_twice_63 (by decide) ?_
                  exact ih2 (j + 1) (by omega) (by omega) _ (pB_t ((dup2_s _ i j).mpr (by first | exact Or.inl hb25 | exact Or.inr hb50))).symm
        exact inner (i + 1) 0 (by omega) (by omega) _ (pB_c (dup2_0 _ i).symm)
  refine V_iconst (v := nI 0) d_Mo_twice_0 (by decide +kernel) ?_
  refine V_istore d_Mo_twice_1 (Nat.le_of_ble_eq_true rfl) ?_
  show pV Γ _ _ [some (.ref m), some (.int (nI r)), some (.int (nI a)), some (.int (nI w)), some (.int (nI c)), some (.int (nI 0)), none, none] _ _ _ _ _ _
  refine V_iconst (v := nI 0) d_Mo_twice_3 (by decide +kernel) ?_
  refine V_istore d_Mo_twice_4 (Nat.le_of_ble_eq_true rfl) ?_
  show pV Γ _ _ [some (.ref m), some (.int (nI r)), some (.int (nI a)), some (.int (nI w)), some (.int (nI c)), some (.int (nI 0)), some (.int (nI 0)), none] _ _ _ _ _ _
  exact loop (c + 1) 0 (by omega) (by omega) _ _ (pB_f (pDup_0 _)).symm
def unk2 (D : Dfn) (m i : Nat) : Prop := (∃ m', m' < m ∧ ∃ i, i < dL D m' ∧ dC D m' (i * 3) ≠ 0 ∧ dC D m' (i * 3) ≠ nI 1) ∨ ∃ i', i' < i ∧ dC D m (i' * 3) ≠ 0 ∧ dC D m (i' * 3) ≠ nI 1
theorem unk2_s (D : Dfn) (m i : Nat) : unk2 D m (i + 1) ↔ (unk2 D m i ∨ (dC D m (i * 3) ≠ 0 ∧ dC D m (i * 3) ≠ nI 1)) := by
  constructor
  · rintro (h | ⟨k, hk, e⟩)
    · exact Or.inl (Or.inl h)
    · by_cases q : k = i
      · subst q; exact Or.inr e
      · exact Or.inl (Or.inr ⟨k, by omega, e⟩)
  · rintro ((h | ⟨k, hk, e⟩) | e)
    · exact Or.inl h
    · exact Or.inr ⟨k, by omega, e⟩
    · exact Or.inr ⟨i, by omega, e⟩
theorem unk2_n (D : Dfn) (m : Nat) : unk2 D m (dL D m) ↔ unk2 D (m + 1) 0 := by
  constructor
  · rintro (⟨m', h1, h2⟩ | ⟨i, hi, e⟩)
    · exact Or.inl ⟨m', by omega, h2⟩
    · exact Or.inl ⟨m, by omega, i, hi, e⟩
  · rintro (⟨m', h1, i, hi, e⟩ | ⟨i, hi, _⟩)
    · by_cases q : m' = m
      · subst q; exact Or.inr ⟨i, hi, e⟩
      · exact Or.inl ⟨m', by omega, i, hi, e⟩
    · exact absurd hi (by omega)
theorem unk2_z (D : Dfn) : ¬ unk2 D 0 0 := by
  rintro (⟨m', h1, _⟩ | ⟨i, hi, _⟩)
  · exact absurd h1 (by omega)
  · exact absurd hi (by omega)
theorem unk2_e (D : Dfn) : unk2 D (dNm D) 0 ↔ pUnk D := by
  constructor
  · rintro (⟨m', h1, h2⟩ | ⟨i, hi, _⟩)
    · exact ⟨m', h1, h2⟩
    · exact absurd hi (by omega)
  · rintro ⟨m', h1, h2⟩
    exact Or.inl ⟨m', h1, h2⟩
set_option maxHeartbeats 1000000 in
theorem c_Mo_strangeOp {Γ : pmE} {G : pmG} {n : Nat} {Q : pmPost} {m : Nat} {ch ba : Int32} {f : Nat → Int32} {r : Nat} {D : Dfn} (hH : G m = some (.inr (kMo, moFs m ch ba))) (hF : G (m + 1) = some (.inl (0, 4387, .inl f))) (hr : r < 41) (hR : isRow f r D) (hQ : Q (some (.int (pB (pUnk D)))) n G) : pV Γ m_Mo_strangeOp 0 [some (.ref m), some (.int (nI r)), none, none, none, none, none] [] n G 0 0 Q := by
  obtain ⟨⟨o1, o2, o3, o4⟩, hr1, hr2, hr3, hr4, hr5, hr7, hr8⟩ := hR
  have loop : ∀ (d k : Nat), k ≤ dNm D → dNm D - k < d → ∀ (x2 : Int32) (w4 w5 w6 : Option Value), x2 = pB (unk2 D k 0) → pV Γ m_Mo_strangeOp 4 [some (.ref m), some (.int (nI r)), some (.int x2), some (.int (nI k)), w4, w5, w6] [] n G 0 0 Q := by
    intro d
    induction d with
    | zero => intro k _ hd; exact absurd hd (by omega)
    | succ d ih =>
      intro k hi hd x2 w4 w5 w6 h2
      subst h2
      refine V_iload_n d_Mo_strangeOp_4 rfl ?_
      refine V_aload_n d_Mo_strangeOp_5 rfl ?_
      refine V_iload_n d_Mo_strangeOp_6 rfl ?_
      refine V_bipush (v := nI 22) d_Mo_strangeOp_7 (by decide +kernel) ?_
      refine V_callV (As := [.int (nI r), .int (nI 22)]) (rest := [.int (nI k)]) (lo' := [some (.ref m), some (.int (nI r)), some (.int (nI 22))]) (bc1 := 0) (bs1 := 0) (bc' := 0) (bs' := 0) d_Mo_strangeOp_9 k_Mo_strangeOp_69 hH rfl rfl rfl rfl (by rfl) (by rfl) ?_
      refine c_Mo_get hH hF (by omega) ?_
      rw [hr7]
      show pV Γ m_Mo_strangeOp 12 [some (.ref m), some (.int (nI r)), some (.int (pB (unk2 D k 0))), some (.int (nI k)), w4, w5, w6] [.int (nI (dNm D)), .int (nI k)] _ G 0 0 Q
      refine V_icmp_geN (tgt := 87) d_Mo_strangeOp_12 (by decide) (by omega) (by omega) (fun hb12 => ?_) (fun hb12 => ?_)
      · refine V_iload_n d_Mo_strangeOp_87 rfl ?_
        exact V_zreturn d_Mo_strangeOp_88 rfl (by first | exact pB_or _ | exact Or.inl rfl | exact Or.inr rfl) (by rw [pB_c (unk2_e D).symm, show dNm D = k by omega] at hQ; exact hQ)
      · refine V_iload_n d_Mo_strangeOp_15 rfl ?_
        refine V_callS (As := [.int (nI k)]) (rest := []) (lo' := [some (.int (nI k))]) (bc1 := 0) (bs1 := 0) (bc' := 0) (bs' := 0) d_Mo_strangeOp_16 k_Mo_strangeOp_85 rfl rfl rfl rfl (by rfl) (by rfl) ?_
        refine c_Mo_methodAt ?_
        show pV Γ m_Mo_strangeOp 19 [some (.ref m), some (.int (nI r)), some (.int (pB (unk2 D k 0))), some (.int (nI k)), w4, w5, w6] [.int (nI (23 + 21 * k))] _ G 0 0 Q
        refine V_iconst (v := nI 2) d_Mo_strangeOp_19 (by decide +kernel) ?_
        refine V_iaddN d_Mo_strangeOp_20 ?_
        refine V_istore d_Mo_strangeOp_21 (Nat.le_of_ble_eq_true rfl) ?_
        show pV Γ _ _ [some (.ref m), some (.int (nI r)), some (.int (pB (unk2 D k 0))), some (.int (nI k)), some (.int (nI (23 + 21 * k + 2))), w5, w6] _ _ _ _ _ _
        refine V_iconst (v := nI 0) d_Mo_strangeOp_23 (by decide +kernel) ?_
        refine V_istore d_Mo_strangeOp_24 (Nat.le_of_ble_eq_true rfl) ?_
        show pV Γ _ _ [some (.ref m), some (.int (nI r)), some (.int (pB (unk2 D k 0))), some (.int (nI k)), some (.int (nI (23 + 21 * k + 2))), some (.int (nI 0)), w6] _ _ _ _ _ _
        have hl6 := o4 k (by omega)
        have inner : ∀ (d2 i : Nat), i ≤ dL D k → dL D k - i < d2 → ∀ (x2 : Int32) (w6 : Option Value), x2 = pB (unk2 D k i) → pV Γ m_Mo_strangeOp 26 [some (.ref m), some (.int (nI r)), some (.int x2), some (.int (nI k)), some (.int (nI (23 + 21 * k + 2))), some (.int (nI i)), w6] [] n G 0 0 Q := by
          intro d2
          induction d2 with
          | zero => intro i _ hd2; exact absurd hd2 (by omega)
          | succ d2 ih2 =>
            intro i hj hd2 x2 w6 h2
            subst h2
            refine V_iload d_Mo_strangeOp_26 rfl ?_
            refine V_aload_n d_Mo_strangeOp_28 rfl ?_
            refine V_iload_n d_Mo_strangeOp_29 rfl ?_
            refine V_iload d_Mo_strangeOp_30 rfl ?_
            refine V_callV (As := [.int (nI r), .int (nI (23 + 21 * k + 2))]) (rest := [.int (nI i)]) (lo' := [some (.ref m), some (.int (nI r)), some (.int (nI (23 + 21 * k + 2)))]) (bc1 := 0) (bs1 := 0) (bc' := 0) (bs' := 0) d_Mo_strangeOp_32 k_Mo_strangeOp_69 hH rfl rfl rfl rfl (by rfl) (by rfl) ?_
            refine c_Mo_get hH hF (by omega) ?_
            rw [(hr8 k (by omega)).2.2.1]
            show pV Γ m_Mo_strangeOp 35 [some (.ref m), some (.int (nI r)), some (.int (pB (unk2 D k i))), some (.int (nI k)), some (.int (nI (23 + 21 * k + 2))), some (.int (nI i)), w6] [.int (nI (dL D k)), .int (nI i)] _ G 0 0 Q
            refine V_icmp_geN (tgt := 81) d_Mo_strangeOp_35 (by decide) (by omega) (by omega) (fun hb35 => ?_) (fun hb35 => ?_)
            · refine V_iincN d_Mo_strangeOp_81 rfl ?_
              show pV Γ _ _ [some (.ref m), some (.int (nI r)), some (.int (pB (unk2 D k i))), some (.int (nI (k + 1))), some (.int (nI (23 + 21 * k + 2))), some (.int (nI i)), w6] _ _ _ _ _ _
              refine V_goto (tgt := 4) d_Mo_strangeOp_84 (by decide) ?_
              exact ih (k + 1) (by omega) (by omega) _ _ _ _ (pB_c (by rw [show i = dL D k by omega]; exact unk2_n D k))
            · refine V_aload_n d_Mo_strangeOp_38 rfl ?_
              refine V_iload_n d_Mo_strangeOp_39 rfl ?_
              refine V_iload d_Mo_strangeOp_40 rfl ?_
              refine V_iconst (v := nI 1) d_Mo_strangeOp_42 (by decide +kernel) ?_
              refine V_iaddN d_Mo_strangeOp_43 ?_
              refine V_iconst (v := nI 3) d_Mo_strangeOp_44 (by decide +kernel) ?_
              refine V_iload d_Mo_strangeOp_45 rfl ?_
              refine V_imulN d_Mo_strangeOp_47 ?_
              refine V_iaddN d_Mo_strangeOp_48 ?_
              refine V_callV (As := [.int (nI r), .int (nI (23 + 21 * k + 2 + 1 + (3 * i)))]) (rest := []) (lo' := [some (.ref m), some (.int (nI r)), some (.int (nI (23 + 21 * k + 2 + 1 + (3 * i))))]) (bc1 := 0) (bs1 := 0) (bc' := 0) (bs' := 0) d_Mo_strangeOp_49 k_Mo_strangeOp_69 hH rfl rfl rfl rfl (by rfl) (by rfl) ?_
              refine c_Mo_get hH hF (by omega) ?_
              rw [show 107 * r + (23 + 21 * k + 2 + 1 + 3 * i) = 107 * r + (23 + 21 * k + 3 + i * 3) by omega, (hr8 k (by omega)).2.2.2 (i * 3) (by omega)]
              show pV Γ m_Mo_strangeOp 52 [some (.ref m), some (.int (nI r)), some (.int (pB (unk2 D k i))), some (.int (nI k)), some (.int (nI (23 + 21 * k + 2))), some (.int (nI i)), w6] [.int ((dC D k (i * 3)))] _ G 0 0 Q
              refine V_istore d_Mo_strangeOp_52 (Nat.le_of_ble_eq_true rfl) ?_
              show pV Γ _ _ [some (.ref m), some (.int (nI r)), some (.int (pB (unk2 D k i))), some (.int (nI k)), some (.int (nI (23 + 21 * k + 2))), some (.int (nI i)), some (.int ((dC D k (i * 3))))] _ _ _ _ _ _
              refine V_iload_n d_Mo_strangeOp_54 rfl ?_
              refine V_if_neB (tgt := 69) d_Mo_strangeOp_55 (by decide) (fun hb55 => ?_) (fun hb55 => ?_)
              · refine V_iconst (v := nI 1) d_Mo_strangeOp_69 (by decide +kernel) ?_
                refine V_goto (tgt := 74) d_Mo_strangeOp_70 (by decide) ?_
                refine V_istore_n d_Mo_strangeOp_74 (Nat.le_of_ble_eq_true rfl) ?_
                show pV Γ _ _ [some (.ref m), some (.int (nI r)), some (.int (nI 1)), some (.int (nI k)), some (.int (nI (23 + 21 * k + 2))), some (.int (nI i)), some (.int ((dC D k (i * 3))))] _ _ _ _ _ _
                refine V_iincN d_Mo_strangeOp_75 rfl ?_
                show pV Γ _ _ [some (.ref m), some (.int (nI r)), some (.int (nI 1)), some (.int (nI k)), some (.int (nI (23 + 21 * k + 2))), some (.int (nI (i + 1))), some (.int ((dC D k (i * 3))))] _ _ _ _ _ _
                refine V_goto (tgt := 26) d_Mo_strangeOp_78 (by decide) ?_
                exact ih2 (i + 1) (by omega) (by omega) _ _ (pB_t ((unk2_s D k i).mpr (by first | exact Or.inl hb55 | exact Or.inr ⟨hb60, hb66⟩))).symm
              · refine V_iload d_Mo_strangeOp_58 rfl ?_
                refine V_if_eq (tgt := 73) d_Mo_strangeOp_60 (by decide) (fun hb60 => ?_) (fun hb60 => ?_)
                · refine V_iconst (v := nI 0) d_Mo_strangeOp_73 (by decide +kernel) ?_
                  refine V_istore_n d_Mo_strangeOp_74 (Nat.le_of_ble_eq_true rfl) ?_
                  show pV Γ _ _ [some (.ref m), some (.int (nI r)), some (.int (nI 0)), some (.int (nI k)), some (.int (nI (23 + 21 * k + 2))), some (.int (nI i)), some (.int ((dC D k (i * 3))))] _ _ _ _ _ _
                  refine V_iincN d_Mo_strangeOp_75 rfl ?_
                  show pV Γ _ _ [some (.ref m), some (.int (nI r)), some (.int (nI 0)), some (.int (nI k)), some (.int (nI (23 + 21 * k + 2))), some (.int (nI (i + 1))), some (.int ((dC D k (i * 3))))] _ _ _ _ _ _
                  refine V_goto (tgt := 26) d_Mo_strangeOp_78 (by decide) ?_
                  exact ih2 (i + 1) (by omega) (by omega) _ _ (pB_f (fun e => ((unk2_s D k i).mp e).elim hb55 (fun e => by first | exact e.1 hb60 | exact e.2 hb66))).symm
                · refine V_iload d_Mo_strangeOp_63 rfl ?_
                  refine V_iconst (v := nI 1) d_Mo_strangeOp_65 (by decide +kernel) ?_
                  refine V_icmp_eq (tgt := 73) d_Mo_strangeOp_66 (by decide) (fun hb66 => ?_) (fun hb66 => ?_)
                  · refine V_iconst (v := nI 0) d_Mo_strangeOp_73 (by decide +kernel) ?_
                    refine V_istore_n d_Mo_strangeOp_74 (Nat.le_of_ble_eq_true rfl) ?_
                    show pV Γ _ _ [some (.ref m), some (.int (nI r)), some (.int (nI 0)), some (.int (nI k)), some (.int (nI (23 + 21 * k + 2))), some (.int (nI i)), some (.int ((dC D k (i * 3))))] _ _ _ _ _ _
                    refine V_iincN d_Mo_strangeOp_75 rfl ?_
                    show pV Γ _ _ [some (.ref m), some (.int (nI r)), some (.int (nI 0)), some (.int (nI k)), some (.int (nI (23 + 21 * k + 2))), some (.int (nI (i + 1))), some (.int ((dC D k (i * 3))))] _ _ _ _ _ _
                    refine V_goto (tgt := 26) d_Mo_strangeOp_78 (by decide) ?_
                    exact ih2 (i + 1) (by omega) (by omega) _ _ (pB_f (fun e => ((unk2_s D k i).mp e).elim hb55 (fun e => by first | exact e.1 hb60 | exact e.2 hb66))).symm
                  · refine V_iconst (v := nI 1) d_Mo_strangeOp_69 (by decide +kernel) ?_
                    refine V_goto (tgt := 74) d_Mo_strangeOp_70 (by decide) ?_
                    refine V_istore_n d_Mo_strangeOp_74 (Nat.le_of_ble_eq_true rfl) ?_
                    show pV Γ _ _ [some (.ref m), some (.int (nI r)), some (.int (nI 1)), some (.int (nI k)), some (.int (nI (23 + 21 * k + 2))), some (.int (nI i)), some (.int ((dC D k (i * 3))))] _ _ _ _ _ _
                    refine V_iincN d_Mo_strangeOp_75 rfl ?_
                    show pV Γ _ _ [some (.ref m), some (.int (nI r)), some (.int (nI 1)), some (.int (nI k)), some (.int (nI (23 + 21 * k + 2))), some (.int (nI (i + 1))), some (.int ((dC D k (i * 3))))] _ _ _ _ _ _
                    refine V_goto (tgt := 26) d_Mo_strangeOp_78 (by decide) ?_
                    exact ih2 (i + 1) (by omega) (by omega) _ _ (pB_t ((unk2_s D k i).mpr (by first | exact Or.inl hb55 | exact Or.inr ⟨hb60, hb66⟩))).symm
        exact inner (dL D k + 1) 0 (by omega) (by omega) _ _ rfl
  refine V_iconst (v := nI 0) d_Mo_strangeOp_0 (by decide +kernel) ?_
  refine V_istore_n d_Mo_strangeOp_1 (Nat.le_of_ble_eq_true rfl) ?_
  show pV Γ _ _ [some (.ref m), some (.int (nI r)), some (.int (nI 0)), none, none, none, none] _ _ _ _ _ _
  refine V_iconst (v := nI 0) d_Mo_strangeOp_2 (by decide +kernel) ?_
  refine V_istore_n d_Mo_strangeOp_3 (Nat.le_of_ble_eq_true rfl) ?_
  show pV Γ _ _ [some (.ref m), some (.int (nI r)), some (.int (nI 0)), some (.int (nI 0)), none, none, none] _ _ _ _ _ _
  exact loop (dNm D + 1) 0 (by omega) (by omega) _ _ _ _ (pB_f (unk2_z D)).symm
set_option maxHeartbeats 1000000 in
theorem c_Mo_circle {Γ : pmE} {G : pmG} {n : Nat} {Q : pmPost} {m : Nat} {ch ba : Int32} {f : Nat → Int32} {cu : Nat → Nat} {r : Nat} {D : Dfn} {ld : LdS} (hH : G m = some (.inr (kMo, moFs m ch ba))) (hF : G (m + 1) = some (.inl (0, 4387, .inl f))) (hCu : G (m + 2) = some (.inl (0, 6, .inl (fun j => nI (cu j))))) (hr : r < 41) (hR : isRow f r D) (hL : moL f cu ld) (hQ : Q (some (.int (pB (pMeet ld (dP D 1) 7 (dP D 2))))) n G) : pV Γ m_Mo_circle 0 [some (.ref m), some (.int (nI r)), none, none, none, none] [] n G 0 0 Q := by
  obtain ⟨⟨o1, o2, o3, o4⟩, hr1, hr2, hr3, hr4, hr5, hr7, hr8⟩ := hR
  have loop : ∀ (d i : Nat), i ≤ 10 → 10 - i < d → ∀ (x x4 : Int32), x4 = pB (x = dP D 1) → (pMeet ld (dP D 1) 11 (dP D 2) ↔ pMeet ld (dP D 1) (11 - i) x) → pV Γ m_Mo_circle 29 [some (.ref m), some (.int (nI r)), some (.int ((dP D 1))), some (.int x), some (.int x4), some (.int (nI i))] [] n G 0 0 Q := by
    intro d
    induction d with
    | zero => intro i _ hd; exact absurd hd (by omega)
    | succ d ih =>
      intro i hi hd x x4 h4 hv
      subst h4
      refine V_iload d_Mo_circle_29 rfl ?_
      refine V_bipush (v := nI 10) d_Mo_circle_31 (by decide +kernel) ?_
      refine V_icmp_geN (tgt := 79) d_Mo_circle_33 (by decide) (by omega) (by omega) (fun hb33 => ?_) (fun hb33 => ?_)
      · refine V_iload d_Mo_circle_79 rfl ?_
        refine V_zreturn d_Mo_circle_81 rfl (by first | exact pB_or _ | exact Or.inl rfl | exact Or.inr rfl) (?_)
        rw [pB_c (pMeet_7 ld (dP D 1) (dP D 2)).symm] at hQ
        refine (pB_c (p := x = dP D 1) ⟨fun e => hv.mpr (by rw [show 11 - i = 0 + 1 by omega]; exact Or.inl e), fun e => ?_⟩).symm ▸ hQ
        have e := hv.mp e
        rw [show 11 - i = 0 + 1 by omega] at e
        rcases e with e | ⟨c', L', hc', hx', hl', e⟩
        · exact e
        · exact e.elim
      · refine V_iload d_Mo_circle_36 rfl ?_
        refine V_if_neB (tgt := 79) d_Mo_circle_38 (by decide) (fun hb38 => ?_) (fun hb38 => ?_)
        · refine V_iload d_Mo_circle_79 rfl ?_
          refine V_zreturn d_Mo_circle_81 rfl (by first | exact pB_or _ | exact Or.inl rfl | exact Or.inr rfl) (?_)
          rw [pB_c (pMeet_7 ld (dP D 1) (dP D 2)).symm] at hQ
          exact (pB_c (p := x = dP D 1) ⟨fun e => hv.mpr (by rw [show 11 - i = (10 - i) + 1 by omega]; exact Or.inl e), fun _ => hb38⟩).symm ▸ hQ
        · refine V_aload_n d_Mo_circle_41 rfl ?_
          refine V_iload_n d_Mo_circle_42 rfl ?_
          refine V_callV (As := [.int x]) (rest := []) (lo' := [some (.ref m), some (.int x)]) (bc1 := 0) (bs1 := 0) (bc' := 0) (bs' := 0) d_Mo_circle_43 k_Mo_circle_77 hH rfl rfl rfl rfl (by rfl) (by rfl) ?_
          refine c_Mo_loaded hH hCu hL.lt ?_
          show pV Γ m_Mo_circle 46 [some (.ref m), some (.int (nI r)), some (.int ((dP D 1))), some (.int x), some (.int (pB (x = dP D 1))), some (.int (nI i))] [.int (pB (∃ c, c < 6 ∧ x = nI c ∧ 0 < cu c))] _ G 0 0 Q
          refine V_if_eqB (tgt := 79) d_Mo_circle_46 (by decide) (fun hb46 => ?_) (fun hb46 => ?_)
          · refine V_iload d_Mo_circle_79 rfl ?_
            refine V_zreturn d_Mo_circle_81 rfl (by first | exact pB_or _ | exact Or.inl rfl | exact Or.inr rfl) (?_)
            rw [pB_c (pMeet_7 ld (dP D 1) (dP D 2)).symm] at hQ
            refine (pB_c (p := x = dP D 1) ⟨fun e => hv.mpr (by rw [show 11 - i = (10 - i) + 1 by omega]; exact Or.inl e), fun e => ?_⟩).symm ▸ hQ
            have e := hv.mp e
            rw [show 11 - i = (10 - i) + 1 by omega] at e
            rcases e with e | ⟨c', L', hc', hx', hl', e⟩
            · exact e
            · exact absurd ⟨c', hc', hx', (hL.pos hc').mpr ⟨L', hl'⟩⟩ hb46
          · refine V_aload_n d_Mo_circle_49 rfl ?_
            refine V_aload_n d_Mo_circle_50 rfl ?_
            refine V_getf d_Mo_circle_51 f_Mo_17 hH rfl ?_
            refine V_iload_n d_Mo_circle_54 rfl ?_
            obtain ⟨c, hc, hx, h0⟩ := hb46
            obtain ⟨L, hl⟩ := (hL.pos hc).mp h0
            obtain ⟨k1, k2, k3⟩ := (hL c hc).1 L hl
            refine V_iaload (j := c) d_Mo_circle_55 rfl hCu hx hc (by omega) ?_
            show pV Γ _ _ _ (.int (nI (cu c)) :: _) _ _ _ _ _
            refine V_iconst (v := nI 2) d_Mo_circle_56 (by decide +kernel) ?_
            refine V_callV (As := [.int (nI (cu c)), .int (nI 2)]) (rest := []) (lo' := [some (.ref m), some (.int (nI (cu c))), some (.int (nI 2))]) (bc1 := 0) (bs1 := 0) (bc' := 0) (bs' := 0) d_Mo_circle_57 k_Mo_circle_69 hH rfl rfl rfl rfl (by rfl) (by rfl) ?_
            refine c_Mo_get hH hF (by omega) ?_
            rw [k3.2.1 2 (by omega)]
            show pV Γ m_Mo_circle 60 [some (.ref m), some (.int (nI r)), some (.int ((dP D 1))), some (.int x), some (.int (pB (x = dP D 1))), some (.int (nI i))] [.int ((dP L.2.1 2))] _ G 0 0 Q
            refine V_istore_n d_Mo_circle_60 (Nat.le_of_ble_eq_true rfl) ?_
            show pV Γ _ _ [some (.ref m), some (.int (nI r)), some (.int ((dP D 1))), some (.int ((dP L.2.1 2))), some (.int (pB (x = dP D 1))), some (.int (nI i))] _ _ _ _ _ _
            refine V_iload_n d_Mo_circle_61 rfl ?_
            refine V_iload_n d_Mo_circle_62 rfl ?_
            refine V_icmp_ne (tgt := 70) d_Mo_circle_63 (by decide) (fun hb63 => ?_) (fun hb63 => ?_)
            · refine V_iconst (v := nI 0) d_Mo_circle_70 (by decide +kernel) ?_
              refine V_istore d_Mo_circle_71 (Nat.le_of_ble_eq_true rfl) ?_
              show pV Γ _ _ [some (.ref m), some (.int (nI r)), some (.int ((dP D 1))), some (.int ((dP L.2.1 2))), some (.int (nI 0)), some (.int (nI i))] _ _ _ _ _ _
              refine V_iincN d_Mo_circle_73 rfl ?_
              show pV Γ _ _ [some (.ref m), some (.int (nI r)), some (.int ((dP D 1))), some (.int ((dP L.2.1 2))), some (.int (nI 0)), some (.int (nI (i + 1)))] _ _ _ _ _ _
              refine V_goto (tgt := 29) d_Mo_circle_76 (by decide) ?_
              exact ih (i + 1) (by omega) (by omega) _ _ (pB_f hb63).symm (by
                rw [show 11 - i = (11 - (i + 1)) + 1 by omega] at hv
                rw [hv]
                constructor
                · rintro (e | ⟨c', L', hc', hx', hl', e⟩)
                  · exact absurd e hb38
                  · have e2 : c = c' := (nI_eq (by omega) (by omega)).mp (hx.symm.trans hx')
                    subst e2
                    rw [hl] at hl'; cases hl'; exact e
                · intro e; exact Or.inr ⟨c, L, hc, hx, hl, e⟩)
            · refine V_iconst (v := nI 1) d_Mo_circle_66 (by decide +kernel) ?_
              refine V_goto (tgt := 71) d_Mo_circle_67 (by decide) ?_
              refine V_istore d_Mo_circle_71 (Nat.le_of_ble_eq_true rfl) ?_
              show pV Γ _ _ [some (.ref m), some (.int (nI r)), some (.int ((dP D 1))), some (.int ((dP L.2.1 2))), some (.int (nI 1)), some (.int (nI i))] _ _ _ _ _ _
              refine V_iincN d_Mo_circle_73 rfl ?_
              show pV Γ _ _ [some (.ref m), some (.int (nI r)), some (.int ((dP D 1))), some (.int ((dP L.2.1 2))), some (.int (nI 1)), some (.int (nI (i + 1)))] _ _ _ _ _ _
              refine V_goto (tgt := 29) d_Mo_circle_76 (by decide) ?_
              exact ih (i + 1) (by omega) (by omega) _ _ (pB_t hb63).symm (by
                rw [show 11 - i = (11 - (i + 1)) + 1 by omega] at hv
                rw [hv]
                constructor
                · rintro (e | ⟨c', L', hc', hx', hl', e⟩)
                  · exact absurd e hb38
                  · have e2 : c = c' := (nI_eq (by omega) (by omega)).mp (hx.symm.trans hx')
                    subst e2
                    rw [hl] at hl'; cases hl'; exact e
                · intro e; exact Or.inr ⟨c, L, hc, hx, hl, e⟩)
  refine V_aload_n d_Mo_circle_0 rfl ?_
  refine V_iload_n d_Mo_circle_1 rfl ?_
  refine V_iconst (v := nI 1) d_Mo_circle_2 (by decide +kernel) ?_
  refine V_callV (As := [.int (nI r), .int (nI 1)]) (rest := []) (lo' := [some (.ref m), some (.int (nI r)), some (.int (nI 1))]) (bc1 := 0) (bs1 := 0) (bc' := 0) (bs' := 0) d_Mo_circle_3 k_Mo_circle_69 hH rfl rfl rfl rfl (by rfl) (by rfl) ?_
  refine c_Mo_get hH hF (by omega) ?_
  rw [hr1 1 (by omega)]
  show pV Γ m_Mo_circle 6 [some (.ref m), some (.int (nI r)), none, none, none, none] [.int ((dP D 1))] _ G 0 0 Q
  refine V_istore_n d_Mo_circle_6 (Nat.le_of_ble_eq_true rfl) ?_
  show pV Γ _ _ [some (.ref m), some (.int (nI r)), some (.int ((dP D 1))), none, none, none] _ _ _ _ _ _
  refine V_aload_n d_Mo_circle_7 rfl ?_
  refine V_iload_n d_Mo_circle_8 rfl ?_
  refine V_iconst (v := nI 2) d_Mo_circle_9 (by decide +kernel) ?_
  refine V_callV (As := [.int (nI r), .int (nI 2)]) (rest := []) (lo' := [some (.ref m), some (.int (nI r)), some (.int (nI 2))]) (bc1 := 0) (bs1 := 0) (bc' := 0) (bs' := 0) d_Mo_circle_10 k_Mo_circle_69 hH rfl rfl rfl rfl (by rfl) (by rfl) ?_
  refine c_Mo_get hH hF (by omega) ?_
  rw [hr1 2 (by omega)]
  show pV Γ m_Mo_circle 13 [some (.ref m), some (.int (nI r)), some (.int ((dP D 1))), none, none, none] [.int ((dP D 2))] _ G 0 0 Q
  refine V_istore_n d_Mo_circle_13 (Nat.le_of_ble_eq_true rfl) ?_
  show pV Γ _ _ [some (.ref m), some (.int (nI r)), some (.int ((dP D 1))), some (.int ((dP D 2))), none, none] _ _ _ _ _ _
  refine V_iload_n d_Mo_circle_14 rfl ?_
  refine V_iload_n d_Mo_circle_15 rfl ?_
  refine V_icmp_ne (tgt := 23) d_Mo_circle_16 (by decide) (fun hb16 => ?_) (fun hb16 => ?_)
  · refine V_iconst (v := nI 0) d_Mo_circle_23 (by decide +kernel) ?_
    refine V_istore d_Mo_circle_24 (Nat.le_of_ble_eq_true rfl) ?_
    show pV Γ _ _ [some (.ref m), some (.int (nI r)), some (.int ((dP D 1))), some (.int ((dP D 2))), some (.int (nI 0)), none] _ _ _ _ _ _
    refine V_iconst (v := nI 0) d_Mo_circle_26 (by decide +kernel) ?_
    refine V_istore d_Mo_circle_27 (Nat.le_of_ble_eq_true rfl) ?_
    show pV Γ _ _ [some (.ref m), some (.int (nI r)), some (.int ((dP D 1))), some (.int ((dP D 2))), some (.int (nI 0)), some (.int (nI 0))] _ _ _ _ _ _
    exact loop 11 0 (by omega) (by omega) _ _ (pB_f hb16).symm Iff.rfl
  · refine V_iconst (v := nI 1) d_Mo_circle_19 (by decide +kernel) ?_
    refine V_goto (tgt := 24) d_Mo_circle_20 (by decide) ?_
    refine V_istore d_Mo_circle_24 (Nat.le_of_ble_eq_true rfl) ?_
    show pV Γ _ _ [some (.ref m), some (.int (nI r)), some (.int ((dP D 1))), some (.int ((dP D 2))), some (.int (nI 1)), none] _ _ _ _ _ _
    refine V_iconst (v := nI 0) d_Mo_circle_26 (by decide +kernel) ?_
    refine V_istore d_Mo_circle_27 (Nat.le_of_ble_eq_true rfl) ?_
    show pV Γ _ _ [some (.ref m), some (.int (nI r)), some (.int ((dP D 1))), some (.int ((dP D 2))), some (.int (nI 1)), some (.int (nI 0))] _ _ _ _ _ _
    exact loop 11 0 (by omega) (by omega) _ _ (pB_t hb16).symm Iff.rfl
