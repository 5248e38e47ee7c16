/-! Editions kept: the reference counts rows, the desk counts first frames. -/
noncomputable def cntP (P : Nat → Prop) : Nat → Nat
  | 0 => 0
  | k + 1 => cntP P k + pI (P k) 1 0
theorem cnt_congr {P R : Nat → Prop} : ∀ m, (∀ i, i < m → (P i ↔ R i)) → cntP P m = cntP R m
  | 0, _ => rfl
  | m + 1, h => by
    show cntP P m + pI _ 1 0 = cntP R m + pI _ 1 0
    rw [cnt_congr m (fun i hi => h i (by omega))]
    by_cases q : P m
    · rw [pI_t q, pI_t ((h m (by omega)).mp q)]
    · rw [pI_f q, pI_f (fun e => q ((h m (by omega)).mpr e))]
theorem cnt_zero {R : Nat → Prop} : ∀ m, (∀ i, i < m → ¬ R i) → cntP R m = 0
  | 0, _ => rfl
  | m + 1, h => by
    show cntP R m + pI _ 1 0 = 0
    rw [cnt_zero m (fun i hi => h i (by omega)), pI_f (h m (by omega))]
theorem cnt_rem {R : Nat → Prop} {j : Nat} (hR : R j) : ∀ m, j < m → cntP R m = cntP (fun i => R i ∧ i ≠ j) m + 1
  | 0, h => absurd h (Nat.not_lt_zero _)
  | m + 1, h => by
    show cntP R m + pI _ 1 0 = cntP _ m + pI (R m ∧ m ≠ j) 1 0 + 1
    by_cases e : j = m
    · subst e
      rw [pI_t hR, pI_f (fun e => e.2 rfl), cnt_congr (R := fun i => R i ∧ i ≠ j) j (fun i hi => ⟨fun q => ⟨q, by omega⟩, fun q => q.1⟩)]
    · rw [cnt_rem hR m (by omega)]
      by_cases q : R m
      · rw [pI_t q, pI_t (show R m ∧ m ≠ j from ⟨q, fun e' => e e'.symm⟩)]
      · rw [pI_f q, pI_f (fun e' : R m ∧ m ≠ j => q e'.1)]
theorem cnt_bij {m : Nat} {P : Nat → Prop} {g : Nat → Nat} : ∀ (n : Nat) (R : Nat → Prop), (∀ i, i < n → P i → g i < m ∧ R (g i)) → (∀ i i', i < n → i' < n → P i → P i' → g i = g i' → i = i') → (∀ j, j < m → R j → ∃ i, i < n ∧ P i ∧ g i = j) → cntP P n = cntP R m
  | 0, R, _, _, h3 => by
    show 0 = _
    rw [cnt_zero m (fun j hj hR => by obtain ⟨i, hi, _⟩ := h3 j hj hR; exact absurd hi (Nat.not_lt_zero _))]
  | n + 1, R, h1, h2, h3 => by
    show cntP P n + pI _ 1 0 = _
    by_cases q : P n
    · obtain ⟨a, b⟩ := h1 n (by omega) q
      rw [pI_t q, cnt_rem b m a]
      rw [cnt_bij (g := g) n (fun i => R i ∧ i ≠ g n) (fun i hi hp => ⟨(h1 i (by omega) hp).1, (h1 i (by omega) hp).2, fun e => by have := h2 i n (by omega) (by omega) hp q e; omega⟩) (fun i i' hi hi' hp hp' e => h2 i i' (by omega) (by omega) hp hp' e) (fun j hj hR => by
        obtain ⟨i, hi, hp, e⟩ := h3 j hj hR.1
        refine ⟨i, ?_, hp, e⟩
        rcases Nat.lt_or_ge i n with z | z
        · exact z
        · exfalso
          have : i = n := by omega
          subst this
          exact hR.2 e.symm)]
    · rw [pI_f q, Nat.add_zero, cnt_bij (g := g) n R (fun i hi hp => h1 i (by omega) hp) (fun i i' hi hi' hp hp' e => h2 i i' (by omega) (by omega) hp hp' e) (fun j hj hR => by
        obtain ⟨i, hi, hp, e⟩ := h3 j hj hR
        refine ⟨i, ?_, hp, e⟩
        rcases Nat.lt_or_ge i n with z | z
        · exact z
        · exfalso
          have : i = n := by omega
          subst this
          exact q hp)]
theorem leastN {P : Nat → Prop} : ∀ n, P n → ∃ k, P k ∧ ∀ m, m < k → ¬ P m := by
  intro n
  induction n using Nat.strongRecOn with
  | _ n ih =>
    intro h
    by_cases e : ∃ m, m < n ∧ P m
    · obtain ⟨m, h1, h2⟩ := e; exact ih m h1 h2
    · exact ⟨n, h, fun m hm hp => e ⟨m, hm, hp⟩⟩
theorem rCnt_c (U : Nat → Prop) (co : Nat → Nat) (c : Nat) : ∀ k, rCnt U co c k = cntP (fun k => co (17 + k) = c ∧ U (17 + k)) k
  | 0 => rfl
  | k + 1 => by show rCnt U co c k + _ = cntP _ k + _; rw [rCnt_c U co c k]
theorem kCnt_c (th : Nat → Thr) (x : Int32) (e : Nat) : ∀ k, kCnt th x e k = cntP (kCon th x e) k
  | 0 => rfl
  | k + 1 => by show kCnt th x e k + _ = cntP _ k + _; rw [kCnt_c th x e k]
theorem kept_eq {f : Nat → Int32} {cu nu no co dp fr fm pl : Nat → Nat} {sm rs : Nat → Int32} {ld : LdS} {th : Nat → Thr} {N c : Nat} {L : Nat × Dfn × Dfn} (mL : moLs f cu nu no co ld) (mH : moHs f no co dp fr fm pl sm rs th) (mU : moUs cu nu no co dp fr N) (hN : N < 2 ^ 31) (hc : c < 6) (hl : ld c = some L) : rCnt (inUs cu dp fr) co c 24 = 1 + kCnt th (nI c) L.1 15 := by
  obtain ⟨u1, u2, u3, u4, u5⟩ := mU
  obtain ⟨c1, c2, -⟩ := (mL.1 c hc).1 L hl
  obtain ⟨n1, n2, n3, -⟩ := (mL.2 c hc).1 L hl
  have hU0 : inUs cu dp fr (cu c) := Or.inr ⟨c, hc, rfl⟩
  -- a frame that runs
  have fme : ∀ i, i < 15 → i % 5 < (th (i / 5)).1 → i / 5 < 3 ∧ i % 5 < dp (i / 5) ∧ 5 * (i / 5) + i % 5 = i ∧ 17 ≤ fr i ∧ fr i < 41 ∧ ((th (i / 5)).2.1 (i % 5)).1 = nI (co (fr i)) ∧ ((th (i / 5)).2.1 (i % 5)).2.1 = nI (no (fr i)) ∧ inUs cu dp fr (fr i) ∧ no (fr i) < 2 ^ 31 ∧ co (fr i) < 6 := by
    intro i hi hk
    have ht : i / 5 < 3 := by omega
    have e5 : 5 * (i / 5) + i % 5 = i := by omega
    obtain ⟨d1, d2, d3, d4⟩ := mH (i / 5) ht
    have hk' : i % 5 < dp (i / 5) := by rw [d1]; exact hk
    obtain ⟨a1, a2, a3, a4, -⟩ := d4 (i % 5) hk'
    rw [e5] at a1 a2 a3 a4
    have hu : inUs cu dp fr (fr i) := Or.inl ⟨i / 5, i % 5, ht, hk', by rw [e5]⟩
    have h6 := u2 (fr i) a2
    have := u3 (fr i) a1 hu
    have := u5 (co (fr i)) h6
    exact ⟨ht, hk', e5, a1, a2, a3, a4, hu, by omega, h6⟩
  have hL31 : L.1 < 2 ^ 31 := by have := u5 c hc; omega
  rw [rCnt_c, kCnt_c, cnt_rem (R := fun k => co (17 + k) = c ∧ inUs cu dp fr (17 + k)) (j := cu c - 17) (by rw [show 17 + (cu c - 17) = cu c by omega]; exact ⟨n3, hU0⟩) 24 (by omega)]
  rw [cnt_bij (m := 24) (P := kCon th (nI c) L.1) (g := fun i => fr i - 17) 15 (fun k => (co (17 + k) = c ∧ inUs cu dp fr (17 + k)) ∧ k ≠ cu c - 17)]
  · omega
  · intro i hi hp
    obtain ⟨p1, p2, p3, -⟩ := hp
    obtain ⟨-, -, -, a1, a2, a3, a4, a5, a6, a7⟩ := fme i hi p1
    have e17 : 17 + (fr i - 17) = fr i := by omega
    have hcc : co (fr i) = c := (nI_eq (by omega) (by omega)).mp (a3.symm.trans p2)
    refine ⟨by show fr i - 17 < 24; omega, ?_, ?_⟩
    · show co (17 + (fr i - 17)) = c ∧ inUs cu dp fr (17 + (fr i - 17))
      rw [e17]; exact ⟨hcc, a5⟩
    · show fr i - 17 ≠ cu c - 17
      intro e
      have e' : fr i = cu c := by omega
      rw [e'] at a4
      exact p3 (by rw [a4, n2])
  · intro i i' hi hi' hp hp' e
    have e : fr i - 17 = fr i' - 17 := e
    obtain ⟨-, -, -, a1, a2, a3, a4, a5, a6, a7⟩ := fme i hi hp.1
    obtain ⟨-, -, -, b1, b2, b3, b4, b5, b6, b7⟩ := fme i' hi' hp'.1
    have e' : fr i = fr i' := by omega
    rcases Nat.lt_trichotomy i i' with z | z | z
    · exact absurd ⟨i, z, hp.1, by rw [a3, b3, e'], by rw [a4, b4, e']⟩ hp'.2.2.2
    · exact z
    · exact absurd ⟨i', z, hp'.1, by rw [a3, b3, e'], by rw [a4, b4, e']⟩ hp.2.2.2
  · intro j hj hR
    obtain ⟨⟨r1, r2⟩, r3⟩ := hR
    have hne : 17 + j ≠ cu c := fun e => r3 (by omega)
    have hfr : inFr dp fr (17 + j) := by
      rcases r2 with r2 | ⟨c', hc', e⟩
      · exact r2
      · exfalso
        cases hl' : ld c' with
        | none => have := (mL.1 c' hc').2 hl'; omega
        | some L' =>
          have := ((mL.2 c' hc').1 L' hl').2.2.1
          rw [e, r1] at this
          subst this
          exact hne e.symm
    obtain ⟨t, k, ht, hk, e⟩ := hfr
    have hd := (mH t ht).2.1
    have hd1 := (mH t ht).1
    obtain ⟨i, ⟨hi15, hik, hif⟩, hmin⟩ := leastN (P := fun i => i < 15 ∧ i % 5 < (th (i / 5)).1 ∧ fr i = 17 + j) (5 * t + k) ⟨by omega, by rw [show (5 * t + k) % 5 = k by omega, show (5 * t + k) / 5 = t by omega, ← hd1]; exact hk, e⟩
    obtain ⟨-, -, -, a1, a2, a3, a4, a5, a6, a7⟩ := fme i hi15 hik
    refine ⟨i, hi15, ⟨hik, by rw [a3, hif, r1], ?_, ?_⟩, by show fr i - 17 = j; omega⟩
    · rw [a4]
      intro en
      have en' : no (fr i) = L.1 := (nI_eq a6 hL31).mp en
      exact hne (by rw [← hif]; exact u4 (fr i) (cu c) a1 c1 a5 hU0 (by rw [hif, r1, n3]) (by rw [en', n2]))
    · rintro ⟨i', hlt, p1, p2, p3⟩
      obtain ⟨-, -, -, b1, b2, b3, b4, b5, b6, b7⟩ := fme i' (by omega) p1
      have q1 : co (fr i') = co (fr i) := (nI_eq (by omega) (by omega)).mp (by rw [← b3, p2, a3])
      have q2 : no (fr i') = no (fr i) := (nI_eq b6 a6).mp (by rw [← b4, p3, a4])
      exact hmin i' hlt ⟨by omega, p1, by rw [← hif]; exact u4 _ _ b1 a1 b5 a5 q1 q2⟩
