/-! The reference over the one state: threads. -/
theorem va_up_twice {α : Type} (f : Nat → α) (k : Nat) (x y : α) : va_up (va_up f k x) k y = va_up f k y := by
  funext j
  by_cases e : j = k
  · rw [e, va_up_self, va_up_self]
  · rw [va_up_ne _ _ e, va_up_ne _ _ e, va_up_ne _ _ e]
theorem va_up_id {α : Type} (f : Nat → α) (k : Nat) : va_up f k (f k) = f := by
  funext j
  by_cases e : j = k
  · rw [e, va_up_self]
  · rw [va_up_ne _ _ e]
theorem moHs.gen {f : Nat → Int32} {no co dp fr fm pl dp' fr' fm' pl' : Nat → Nat} {sm rs sm' rs' : Nat → Int32} {th : Nat → Thr} {t : Nat} {t' : Thr} (h : moHs f no co dp fr fm pl sm rs th) (hd : t'.1 ≤ 5) (hdp : dp' t = t'.1) (hrs : rs' t = t'.2.2) (hk : ∀ k, k < t'.1 → fmR f no co (fr' (5 * t + k)) (fm' (5 * t + k)) (pl' (5 * t + k)) (sm' (5 * t + k)) (t'.2.1 k)) (ho : ∀ s, s < 3 → s ≠ t → dp' s = dp s ∧ rs' s = rs s ∧ ∀ k, k < 5 → fr' (5 * s + k) = fr (5 * s + k) ∧ fm' (5 * s + k) = fm (5 * s + k) ∧ pl' (5 * s + k) = pl (5 * s + k) ∧ sm' (5 * s + k) = sm (5 * s + k)) : moHs f no co dp' fr' fm' pl' sm' rs' (va_up th t t') := fun s hs => by
  by_cases e : s = t
  · subst e
    rw [va_up_self]
    exact ⟨hdp, hd, hrs, fun k hk' => hk k (by rw [← hdp]; exact hk')⟩
  · rw [va_up_ne _ _ e]
    obtain ⟨o1, o2, o3⟩ := ho s hs e
    obtain ⟨a, b, c, d⟩ := h s hs
    rw [o1, o2]
    refine ⟨a, b, c, fun k hk' => ?_⟩
    obtain ⟨p1, p2, p3, p4⟩ := o3 k (by omega)
    rw [p1, p2, p3, p4]
    exact d k hk'
theorem moUs.sub {cu nu no co dp fr dp' fr' : Nat → Nat} {N : Nat} (h : moUs cu nu no co dp fr N) (hf : ∀ q, q < 15 → fr' q < 41) (hs : ∀ r, inUs cu dp' fr' r → inUs cu dp fr r) : moUs cu nu no co dp' fr' N := ⟨hf, h.2.1, fun r h1 h2 => h.2.2.1 r h1 (hs r h2), fun r r' h1 h2 h3 h4 => h.2.2.2.1 r r' h1 h2 (hs r h3) (hs r' h4), h.2.2.2.2⟩
theorem inUs.push {cu dp fr : Nat → Nat} {t c r : Nat} (ht : t < 3) (hd : ∀ t, t < 3 → dp t ≤ 5) (hc : c < 6) (h : inUs cu (va_up dp t (dp t + 1)) (va_up fr (5 * t + dp t) (cu c)) r) (hd5 : dp t < 5) : inUs cu dp fr r := by
  rcases h with ⟨t', k, ht', hk, e⟩ | h
  · by_cases q : t' = t
    · subst q
      rw [va_up_self] at hk
      by_cases q2 : k = dp t'
      · rw [q2, va_up_self] at e; exact Or.inr ⟨c, hc, e⟩
      · rw [va_up_ne _ _ (by omega)] at e; exact Or.inl ⟨t', k, ht', by omega, e⟩
    · rw [va_up_ne _ _ q] at hk
      have := hd t' ht'
      rw [va_up_ne _ _ (by omega)] at e
      exact Or.inl ⟨t', k, ht', hk, e⟩
  · exact Or.inr h
theorem inUs.pop {cu dp fr : Nat → Nat} {t r : Nat} (h : inUs cu (va_up dp t (dp t - 1)) fr r) : inUs cu dp fr r := by
  rcases h with ⟨t', k, ht', hk, e⟩ | h
  · by_cases q : t' = t
    · subst q; rw [va_up_self] at hk; exact Or.inl ⟨t', k, ht', by omega, e⟩
    · rw [va_up_ne _ _ q] at hk; exact Or.inl ⟨t', k, ht', hk, e⟩
  · exact Or.inr h
-- the frame of a new call
theorem fmR.new {f : Nat → Int32} {cu nu no co : Nat → Nat} {ld : LdS} {c j : Nat} {x y : Int32} {L : Nat × Dfn × Dfn} (mL : moLs f cu nu no co ld) (hc : c < 6) (hx : x = nI c) (hl : ld c = some L) (hj : dFst L.2.1 y j) : fmR f no co (cu c) (23 + 21 * j) 0 (nI 0) (x, nI L.1, dL L.2.1 j, dC L.2.1 j, 0, nI 0) := by
  obtain ⟨a1, a2, a3⟩ := (mL.1 c hc).1 L hl
  obtain ⟨b1, b2, b3, b4⟩ := (mL.2 c hc).1 L hl
  obtain ⟨⟨o1, o2, o3, o4⟩, -, -, -, -, -, -, r8⟩ := a3
  obtain ⟨g1, g2, g3, g4⟩ := r8 j hj.1
  have hj1 := hj.1
  exact ⟨a1, a2, by rw [b3]; exact hx, by rw [b2], o4 j hj1, ⟨j, by omega, rfl⟩, g3, g4, rfl, Nat.zero_le _, rfl⟩
theorem moHs.push {f : Nat → Int32} {cu nu no co dp fr fm pl : Nat → Nat} {sm rs : Nat → Int32} {th : Nat → Thr} {ld : LdS} {t c j : Nat} {x y : Int32} {L : Nat × Dfn × Dfn} (mL : moLs f cu nu no co ld) (mH : moHs f no co dp fr fm pl sm rs th) (ht : t < 3) (hd : dp t < 5) (hc : c < 6) (hx : x = nI c) (hl : ld c = some L) (hj : dFst L.2.1 y j) : moHs f no co (va_up dp t (dp t + 1)) (va_up fr (5 * t + dp t) (cu c)) (va_up fm (5 * t + dp t) (23 + 21 * j)) (va_up pl (5 * t + dp t) 0) (upd sm (5 * t + dp t) (nI 0)) rs (va_up th t ((th t).1 + 1, va_up (th t).2.1 (th t).1 (x, nI L.1, dL L.2.1 j, dC L.2.1 j, 0, nI 0), (th t).2.2)) := by
  obtain ⟨d1, d2, d3, d4⟩ := mH t ht
  refine mH.gen (by show (th t).1 + 1 ≤ 5; omega) (by rw [va_up_self, d1]) d3 (fun k hk => ?_) (fun s hs e => ⟨va_up_ne _ _ e, rfl, fun k hk => ⟨va_up_ne _ _ (by omega), va_up_ne _ _ (by omega), va_up_ne _ _ (by omega), pk_un (by omega)⟩⟩)
  have hk : k < (th t).1 + 1 := hk
  show fmR _ _ _ _ _ _ _ (va_up (th t).2.1 (th t).1 (x, nI L.1, dL L.2.1 j, dC L.2.1 j, 0, nI 0) k)
  by_cases e : k = (th t).1
  · rw [e, va_up_self, ← d1, va_up_self, va_up_self, va_up_self, pk_us]
    exact fmR.new mL hc hx hl hj
  · rw [va_up_ne _ _ e, va_up_ne _ _ (by omega), va_up_ne _ _ (by omega), va_up_ne _ _ (by omega), pk_un (by omega)]
    exact d4 k (by omega)
set_option maxHeartbeats 1000000 in
theorem cm_start {Γ : pmE} {G : pmG} {n : Nat} {Q : pmPost} {m : Nat} {D : Dfn} {ch : Option Nat} {ld : LdS} {trs : Nat → Trf} {nb : Nat} {bt : Nat → Int32 × Dfn} {th : Nat → Thr} {N : Nat} (mo : isMo G m D ch ld trs nb bt th N) {t : Nat} {x y : Int32} (ht : t < 3) (hN0 : (th t).1 ≠ 0 → Q (some (.int (nI 0))) n G) (hN : (th t).1 = 0 → pEnt ld (th t) x y = none → Q (some (.int (nI 0))) n G) (hS : (th t).1 = 0 → ∀ t', pEnt ld (th t) x y = some t' → ∀ G', isMo G' m D ch ld trs nb bt (va_up th t t') N → (∀ q, (q < m ∨ m + 18 ≤ q) → G' q = G q) → Q (some (.int (nI 1))) n G') : pV Γ m_Mo_start 0 [some (.ref m), some (.int (nI t)), some (.int x), some (.int y)] [] n G 0 0 Q := by
  obtain ⟨f, cu, nu, no, co, tk, kd, vl, on, rp, me, dp, fr, fm, pl, sm, rs, ⟨hH, hF, hCu, hNu, hNo, hCo, hTk, hKd, hVl, hOn, hRp, hMe, hDp, hFr, hFm, hPl, hSm, hRs⟩, mD, mL, mT', mB, mH, mU⟩ := mo
  obtain ⟨d1, d2, d3, d4⟩ := mH t ht
  refine c_Mo_start hH hF hCu hDp hFr hFm hPl hSm ht (by omega) mL.1 (fun e => ?_) (fun e c L j hc hx hl hj G' a1 a2 a3 a4 a5 a6 => ?_)
  · by_cases z : (th t).1 = 0
    · rcases e with e | e
      · exact absurd (d1.trans z) e
      · exact hN z (pEnt_n e)
    · exact hN0 z
  · have mH2 := moHs.push mL mH ht (by omega) hc hx hl hj
    have mU2 : moUs cu nu no co (va_up dp t (dp t + 1)) (va_up fr (5 * t + dp t) (cu c)) N := mU.sub (fun q hq => by
      by_cases e : q = 5 * t + dp t
      · rw [e, va_up_self]; exact mL.1.lt c hc
      · rw [va_up_ne _ _ e]; exact mU.1 q hq) (fun r hr => inUs.push ht (fun t ht => by rw [(mH t ht).1]; exact (mH t ht).2.1) hc hr (by omega))
    exact hS (by omega) _ (pEnt_s (by omega) hc hx hl ((mL.1 c hc).1 L hl).2.2.1.2.2.1 hj) G' ⟨f, cu, nu, no, co, tk, kd, vl, on, rp, me, va_up dp t (dp t + 1), va_up fr (5 * t + dp t) (cu c), va_up fm (5 * t + dp t) (23 + 21 * j), va_up pl (5 * t + dp t) 0, upd sm (5 * t + dp t) (nI 0), rs, ⟨(a6 _ (by omega)).trans hH, (a6 _ (by omega)).trans hF, (a6 _ (by omega)).trans hCu, (a6 _ (by omega)).trans hNu, (a6 _ (by omega)).trans hNo, (a6 _ (by omega)).trans hCo, (a6 _ (by omega)).trans hTk, (a6 _ (by omega)).trans hKd, (a6 _ (by omega)).trans hVl, (a6 _ (by omega)).trans hOn, (a6 _ (by omega)).trans hRp, (a6 _ (by omega)).trans hMe, a1, a2, a3, a4, a5, (a6 _ (by omega)).trans hRs⟩, mD, mL, mT', mB, mH2, mU2⟩ (fun q hq => a6 q (by omega))
theorem pStep_A1 {ld : LdS} {t : Thr} (h1 : (t.2.1 (t.1 - 1)).2.2.1 ≤ (t.2.1 (t.1 - 1)).2.2.2.2.1) (h2 : t.1 = 1) : pStep ld t = (0, t.2.1, (t.2.1 0).2.2.2.2.2) := by
  unfold pStep
  simp only []
  rw [if_pos h1]
  unfold pLv
  rw [if_pos h2]
theorem pStep_A2 {ld : LdS} {t : Thr} (h1 : (t.2.1 (t.1 - 1)).2.2.1 ≤ (t.2.1 (t.1 - 1)).2.2.2.2.1) (h2 : t.1 ≠ 1) : pStep ld t = (t.1 - 1, va_up t.2.1 (t.1 - 2) (fAdd (t.2.1 (t.1 - 2)) (t.2.1 (t.1 - 1)).2.2.2.2.2), t.2.2) := by
  unfold pStep
  simp only []
  rw [if_pos h1]
  unfold pLv
  rw [if_neg h2]
theorem pStep_B {ld : LdS} {t : Thr} {F : Frm} (hF : t.2.1 (t.1 - 1) = F) (h1 : F.2.2.2.2.1 < F.2.2.1) (h2 : F.2.2.2.1 (F.2.2.2.2.1 * 3) = 0) : pStep ld t = (t.1, va_up t.2.1 (t.1 - 1) (fAdd (fNext F) (F.2.2.2.1 (F.2.2.2.2.1 * 3 + 1))), t.2.2) := by
  subst hF
  unfold pStep
  simp only []
  rw [if_neg (by omega), if_pos h2]
theorem pStep_C {ld : LdS} {t : Thr} {F : Frm} (hF : t.2.1 (t.1 - 1) = F) (h1 : F.2.2.2.2.1 < F.2.2.1) (h2 : F.2.2.2.1 (F.2.2.2.2.1 * 3) ≠ 0) : pStep ld t = (pEnt ld (t.1, va_up t.2.1 (t.1 - 1) (fNext F), t.2.2) (F.2.2.2.1 (F.2.2.2.2.1 * 3 + 1)) (F.2.2.2.1 (F.2.2.2.2.1 * 3 + 2))).getD (t.1, va_up t.2.1 (t.1 - 1) (fNext F), t.2.2) := by
  subst hF
  unfold pStep
  simp only []
  rw [if_neg (by omega), if_neg h2]
theorem pEnt_5 {ld : LdS} {t : Thr} {x y : Int32} (h : t.1 = 5) : pEnt ld t x y = none := by
  unfold pEnt
  rw [if_neg (by omega)]
-- the top frame moves on
theorem moHs.nxt {f : Nat → Int32} {no co dp fr fm pl : Nat → Nat} {sm rs sm' : Nat → Int32} {th : Nat → Thr} {t q : Nat} {F : Frm} {s' : Int32} (mH : moHs f no co dp fr fm pl sm rs th) (ht : t < 3) (h0 : 0 < dp t) (hq : q + 1 = 5 * t + dp t) (hF : (th t).2.1 ((th t).1 - 1) = F) (h1 : F.2.2.2.2.1 < F.2.2.1) (hs : sm' q = s') (hs' : ∀ i, i ≠ q → sm' i = sm i) : moHs f no co dp fr fm (va_up pl q (pl q + 1)) sm' rs (va_up th t ((th t).1, va_up (th t).2.1 ((th t).1 - 1) (F.1, F.2.1, F.2.2.1, F.2.2.2.1, F.2.2.2.2.1 + 1, s'), (th t).2.2)) := by
  obtain ⟨d1, d2, d3, d4⟩ := mH t ht
  refine mH.gen d2 d1 d3 (fun k hk => ?_) (fun s hs e => ⟨rfl, rfl, fun k hk => ⟨rfl, rfl, va_up_ne _ _ (by omega), hs' _ (by omega)⟩⟩)
  have hk : k < (th t).1 := hk
  show fmR _ _ _ _ _ _ _ (va_up (th t).2.1 ((th t).1 - 1) (F.1, F.2.1, F.2.2.1, F.2.2.2.1, F.2.2.2.2.1 + 1, s') k)
  have dk := d4 k (by omega)
  by_cases e : k = (th t).1 - 1
  · have eq : 5 * t + k = q := by omega
    rw [eq] at dk
    rw [e, hF] at dk
    rw [e, va_up_self, ← e, eq, va_up_self, hs]
    obtain ⟨a1, a2, a3, a4, a5, a6, a7, a8, a9, a10, a11⟩ := dk
    exact ⟨a1, a2, a3, a4, a5, a6, a7, a8, by rw [a9], h1, rfl⟩
  · rw [va_up_ne _ _ e, va_up_ne _ _ (by omega), hs' _ (by omega)]
    exact dk
set_option maxHeartbeats 1000000 in
theorem cm_once {Γ : pmE} {G : pmG} {n : Nat} {Q : pmPost} {m : Nat} {D : Dfn} {ch : Option Nat} {ld : LdS} {trs : Nat → Trf} {nb : Nat} {bt : Nat → Int32 × Dfn} {th : Nat → Thr} {N : Nat} (mo : isMo G m D ch ld trs nb bt th N) {t : Nat} (ht : t < 3) (hg : gdA ld) (hok : okT ld (th t)) (h0 : (th t).1 ≠ 0) (hQ : ∀ G', isMo G' m D ch ld trs nb bt (va_up th t (pStep ld (th t))) N → (∀ q, (q < m ∨ m + 18 ≤ q) → G' q = G q) → Q (none) n G') : pV Γ m_Mo_once 0 [some (.ref m), some (.int (nI t)), none, none, none, none, none, none] [] n G 0 0 Q := by
  obtain ⟨f, cu, nu, no, co, tk, kd, vl, on, rp, me, dp, fr, fm, pl, sm, rs, ⟨hH, hF, hCu, hNu, hNo, hCo, hTk, hKd, hVl, hOn, hRp, hMe, hDp, hFr, hFm, hPl, hSm, hRs⟩, mD, mL, mT', mB, mH, mU⟩ := mo
  obtain ⟨d1, d2, d3, d4⟩ := mH t ht
  obtain ⟨q, hq⟩ : ∃ q, q + 1 = 5 * t + dp t := ⟨5 * t + dp t - 1, by omega⟩
  obtain ⟨F, hF'⟩ : ∃ F, (th t).2.1 ((th t).1 - 1) = F := ⟨_, rfl⟩
  have ho := hok ((th t).1 - 1) (by omega)
  rw [hF'] at ho
  have dq := d4 (dp t - 1) (by omega)
  rw [show 5 * t + (dp t - 1) = q by omega, show dp t - 1 = (th t).1 - 1 by omega, hF'] at dq
  obtain ⟨a1, a2, a3, a4, a5, ⟨jq, hjq, hfm⟩, a7, a8, a9, a10, a11⟩ := dq
  refine c_Mo_once (len := F.2.2.1) (o := F.2.2.2.1 (F.2.2.2.2.1 * 3)) (a := F.2.2.2.1 (F.2.2.2.2.1 * 3 + 1)) (b := F.2.2.2.1 (F.2.2.2.2.1 * 3 + 2)) hH hF hCu hDp hFr hFm hPl hSm hRs ht (by omega) (by omega) hq mL.1 a2 (by omega) a7 a5 (by rw [a9]; exact a10) (fun h => ⟨?_, ?_, ?_⟩) (fun h ho' hd5 => ?_) ?_ ?_ ?_ ?_ ?_
  · rw [← a8 _ (by omega), a9]; exact congrArg f (by omega)
  · rw [← a8 _ (by omega), a9]; exact congrArg f (by omega)
  · rw [← a8 _ (by omega), a9]; exact congrArg f (by omega)
  · rcases ho (F.2.2.2.2.1) (by rw [← a9]; exact h) with e | ⟨_, c, L, hc, hx, hl, hn⟩
    · exact absurd e ho'
    · obtain ⟨j, hj⟩ := fstN hn
      exact ⟨c, L, j, hc, hx, hl, hj⟩
  · intro e1 e2 G' a1 a2 a3
    rw [a9] at e1
    have mH2 : moHs f no co (va_up dp t (dp t - 1)) fr fm pl sm (upd rs t (sm q)) (va_up th t (pStep ld (th t))) := by
      rw [pStep_A1 (by rw [hF']; exact e1) (by omega)]
      refine mH.gen (Nat.zero_le _) (by rw [va_up_self]; show dp t - 1 = 0; omega) ?_ (fun k hk => absurd hk (Nat.not_lt_zero _)) (fun s hs e => ⟨va_up_ne _ _ e, pk_un e, fun k hk => ⟨rfl, rfl, rfl, rfl⟩⟩)
      show upd rs t (sm q) t = ((th t).2.1 0).2.2.2.2.2
      rw [pk_us, a11, ← hF', show (th t).1 - 1 = 0 by omega]
    exact hQ G' ⟨f, cu, nu, no, co, tk, kd, vl, on, rp, me, va_up dp t (dp t - 1), fr, fm, pl, sm, upd rs t (sm q), ⟨(a3 _ (by omega) (by omega)).trans hH, (a3 _ (by omega) (by omega)).trans hF, (a3 _ (by omega) (by omega)).trans hCu, (a3 _ (by omega) (by omega)).trans hNu, (a3 _ (by omega) (by omega)).trans hNo, (a3 _ (by omega) (by omega)).trans hCo, (a3 _ (by omega) (by omega)).trans hTk, (a3 _ (by omega) (by omega)).trans hKd, (a3 _ (by omega) (by omega)).trans hVl, (a3 _ (by omega) (by omega)).trans hOn, (a3 _ (by omega) (by omega)).trans hRp, (a3 _ (by omega) (by omega)).trans hMe, a1, (a3 _ (by omega) (by omega)).trans hFr, (a3 _ (by omega) (by omega)).trans hFm, (a3 _ (by omega) (by omega)).trans hPl, (a3 _ (by omega) (by omega)).trans hSm, a2⟩, mD, mL, mT', mB, mH2, mU.sub mU.1 (fun r hr => inUs.pop hr)⟩ (fun q hq => a3 q (by omega) (by omega))
  · intro e1 e2 G' a1 a2 a3
    rw [a9] at e1
    have mH2 : moHs f no co (va_up dp t (dp t - 1)) fr fm pl (upd sm (q - 1) (sm (q - 1) + sm q)) rs (va_up th t (pStep ld (th t))) := by
      rw [pStep_A2 (by rw [hF']; exact e1) (by omega)]
      refine mH.gen (by show (th t).1 - 1 ≤ 5; omega) (by rw [va_up_self, d1]) d3 (fun k hk => ?_) (fun s hs e => ⟨va_up_ne _ _ e, rfl, fun k hk => ⟨rfl, rfl, rfl, pk_un (by omega)⟩⟩)
      have hk : k < (th t).1 - 1 := hk
      show fmR _ _ _ _ _ _ _ (va_up (th t).2.1 ((th t).1 - 2) (fAdd ((th t).2.1 ((th t).1 - 2)) ((th t).2.1 ((th t).1 - 1)).2.2.2.2.2) k)
      have dk := d4 k (by omega)
      by_cases e : k = (th t).1 - 2
      · have eq : 5 * t + k = q - 1 := by omega
        rw [eq] at dk
        rw [e] at dk
        rw [e, va_up_self, ← e, eq, pk_us, e, hF', ← a11]
        obtain ⟨b1, b2, b3, b4, b5, b6, b7, b8, b9, b10, b11⟩ := dk
        exact ⟨b1, b2, b3, b4, b5, b6, b7, b8, b9, b10, by rw [b11]; rfl⟩
      · rw [va_up_ne _ _ e, pk_un (by omega)]
        exact dk
    exact hQ G' ⟨f, cu, nu, no, co, tk, kd, vl, on, rp, me, va_up dp t (dp t - 1), fr, fm, pl, upd sm (q - 1) (sm (q - 1) + sm q), rs, ⟨(a3 _ (by omega) (by omega)).trans hH, (a3 _ (by omega) (by omega)).trans hF, (a3 _ (by omega) (by omega)).trans hCu, (a3 _ (by omega) (by omega)).trans hNu, (a3 _ (by omega) (by omega)).trans hNo, (a3 _ (by omega) (by omega)).trans hCo, (a3 _ (by omega) (by omega)).trans hTk, (a3 _ (by omega) (by omega)).trans hKd, (a3 _ (by omega) (by omega)).trans hVl, (a3 _ (by omega) (by omega)).trans hOn, (a3 _ (by omega) (by omega)).trans hRp, (a3 _ (by omega) (by omega)).trans hMe, a1, (a3 _ (by omega) (by omega)).trans hFr, (a3 _ (by omega) (by omega)).trans hFm, (a3 _ (by omega) (by omega)).trans hPl, a2, (a3 _ (by omega) (by omega)).trans hRs⟩, mD, mL, mT', mB, mH2, mU.sub mU.1 (fun r hr => inUs.pop hr)⟩ (fun q hq => a3 q (by omega) (by omega))
  · intro e1 e2 G' a1 a2 a3
    rw [a9] at e1
    have mH2 : moHs f no co dp fr fm (va_up pl q (pl q + 1)) (upd sm q (sm q + F.2.2.2.1 (F.2.2.2.2.1 * 3 + 1))) rs (va_up th t (pStep ld (th t))) := by
      rw [pStep_B hF' e1 e2]
      exact mH.nxt ht (by omega) hq hF' e1 (by rw [pk_us, a11]; rfl) (fun i hi => pk_un hi)
    exact hQ G' ⟨f, cu, nu, no, co, tk, kd, vl, on, rp, me, dp, fr, fm, va_up pl q (pl q + 1), upd sm q (sm q + F.2.2.2.1 (F.2.2.2.2.1 * 3 + 1)), rs, ⟨(a3 _ (by omega) (by omega)).trans hH, (a3 _ (by omega) (by omega)).trans hF, (a3 _ (by omega) (by omega)).trans hCu, (a3 _ (by omega) (by omega)).trans hNu, (a3 _ (by omega) (by omega)).trans hNo, (a3 _ (by omega) (by omega)).trans hCo, (a3 _ (by omega) (by omega)).trans hTk, (a3 _ (by omega) (by omega)).trans hKd, (a3 _ (by omega) (by omega)).trans hVl, (a3 _ (by omega) (by omega)).trans hOn, (a3 _ (by omega) (by omega)).trans hRp, (a3 _ (by omega) (by omega)).trans hMe, (a3 _ (by omega) (by omega)).trans hDp, (a3 _ (by omega) (by omega)).trans hFr, (a3 _ (by omega) (by omega)).trans hFm, a1, a2, (a3 _ (by omega) (by omega)).trans hRs⟩, mD, mL, mT', mB, mH2, mU⟩ (fun q hq => a3 q (by omega) (by omega))
  · intro e1 e2 e3 G' a1 a2
    rw [a9] at e1
    have mH1 : moHs f no co dp fr fm (va_up pl q (pl q + 1)) sm rs (va_up th t (pStep ld (th t))) := by
      rw [pStep_C hF' e1 e2, pEnt_5 (by show (th t).1 = 5; omega)]
      exact mH.nxt ht (by omega) hq hF' e1 a11 (fun i hi => rfl)
    exact hQ G' ⟨f, cu, nu, no, co, tk, kd, vl, on, rp, me, dp, fr, fm, va_up pl q (pl q + 1), sm, rs, ⟨(a2 _ (by omega)).trans hH, (a2 _ (by omega)).trans hF, (a2 _ (by omega)).trans hCu, (a2 _ (by omega)).trans hNu, (a2 _ (by omega)).trans hNo, (a2 _ (by omega)).trans hCo, (a2 _ (by omega)).trans hTk, (a2 _ (by omega)).trans hKd, (a2 _ (by omega)).trans hVl, (a2 _ (by omega)).trans hOn, (a2 _ (by omega)).trans hRp, (a2 _ (by omega)).trans hMe, (a2 _ (by omega)).trans hDp, (a2 _ (by omega)).trans hFr, (a2 _ (by omega)).trans hFm, a1, (a2 _ (by omega)).trans hSm, (a2 _ (by omega)).trans hRs⟩, mD, mL, mT', mB, mH1, mU⟩ (fun q hq => a2 q (by omega))
  · intro e1 e2 e3 c L j hc hx hl hj G' a1 a2 a3 a4 a5 a6
    rw [a9] at e1
    have mH1 : moHs f no co dp fr fm (va_up pl q (pl q + 1)) sm rs (va_up th t ((th t).1, va_up (th t).2.1 ((th t).1 - 1) (fNext F), (th t).2.2)) := mH.nxt ht (by omega) hq hF' e1 a11 (fun i hi => rfl)
    have mH2 := moHs.push mL mH1 ht e3 hc hx hl hj
    have mH3 : moHs f no co (va_up dp t (dp t + 1)) (va_up fr (5 * t + dp t) (cu c)) (va_up fm (5 * t + dp t) (23 + 21 * j)) (va_up (va_up pl q (pl q + 1)) (5 * t + dp t) 0) (upd sm (5 * t + dp t) (nI 0)) rs (va_up th t (pStep ld (th t))) := by
      rw [pStep_C hF' e1 e2, pEnt_s (by show (th t).1 < 5; omega) hc hx hl ((mL.1 c hc).1 L hl).2.2.1.2.2.1 hj]
      rw [va_up_self, va_up_twice] at mH2
      exact mH2
    have mU2 : moUs cu nu no co (va_up dp t (dp t + 1)) (va_up fr (5 * t + dp t) (cu c)) N := mU.sub (fun q hq => by
      by_cases e : q = 5 * t + dp t
      · rw [e, va_up_self]; exact mL.1.lt c hc
      · rw [va_up_ne _ _ e]; exact mU.1 q hq) (fun r hr => inUs.push ht (fun t ht => by rw [(mH t ht).1]; exact (mH t ht).2.1) hc hr (by omega))
    exact hQ G' ⟨f, cu, nu, no, co, tk, kd, vl, on, rp, me, va_up dp t (dp t + 1), va_up fr (5 * t + dp t) (cu c), va_up fm (5 * t + dp t) (23 + 21 * j), va_up (va_up pl q (pl q + 1)) (5 * t + dp t) 0, upd sm (5 * t + dp t) (nI 0), rs, ⟨(a6 _ (by omega)).trans hH, (a6 _ (by omega)).trans hF, (a6 _ (by omega)).trans hCu, (a6 _ (by omega)).trans hNu, (a6 _ (by omega)).trans hNo, (a6 _ (by omega)).trans hCo, (a6 _ (by omega)).trans hTk, (a6 _ (by omega)).trans hKd, (a6 _ (by omega)).trans hVl, (a6 _ (by omega)).trans hOn, (a6 _ (by omega)).trans hRp, (a6 _ (by omega)).trans hMe, a1, a2, a3, a4, a5, (a6 _ (by omega)).trans hRs⟩, mD, mL, mT', mB, mH3, mU2⟩ (fun q hq => a6 q (by omega))
set_option maxHeartbeats 1000000 in
theorem cm_step {Γ : pmE} {G : pmG} {n : Nat} {Q : pmPost} {m : Nat} {D : Dfn} {ch : Option Nat} {ld : LdS} {trs : Nat → Trf} {nb : Nat} {bt : Nat → Int32 × Dfn} {th : Nat → Thr} {N : Nat} (mo : isMo G m D ch ld trs nb bt th N) {t s : Nat} (ht : t < 3) (hs : s ≤ 100) (hg : gdA ld) (hok : okT ld (th t)) (hQ : ∀ G', isMo G' m D ch ld trs nb bt (va_up th t (stp ld s (th t)).1) N → (∀ q, (q < m ∨ m + 18 ≤ q) → G' q = G q) → Q (some (.int (nI (stp ld s (th t)).2))) n G') : pV Γ m_Mo_step 0 [some (.ref m), some (.int (nI t)), some (.int (nI s)), none] [] n G 0 0 Q := by
  have loop : ∀ (d i : Nat), i ≤ s → s - i < d → ∀ (G1 : pmG) (T1 : Thr), isMo G1 m D ch ld trs nb bt (va_up th t T1) N → okT ld T1 → (stp ld (s - i) T1).1 = (stp ld s (th t)).1 → (stp ld (s - i) T1).2 + i = (stp ld s (th t)).2 → (∀ q, (q < m ∨ m + 18 ≤ q) → G1 q = G q) → pV Γ m_Mo_step 21 [some (.ref m), some (.int (nI t)), some (.int (nI s)), some (.int (nI i))] [] n G1 0 0 Q := by
    intro d
    induction d with
    | zero => intro i _ hd; exact absurd hd (by omega)
    | succ d ih =>
      intro i hi hd G1 T1 mo hokT h1 h2 ho1
      have mo1 := mo
      have hok1 : okT ld (va_up th t T1 t) := by rw [va_up_self]; exact hokT
      have done : (s ≤ i ∨ T1.1 = 0) → Q (some (.int (nI i))) n G1 := fun e => by
        have e' : stp ld (s - i) T1 = (T1, 0) := by
          rcases e with e | e
          · rw [show s - i = 0 by omega]; rfl
          · exact stp_idle e
        rw [e'] at h1 h2
        have mo' : isMo G1 m D ch ld trs nb bt (va_up th t (stp ld s (th t)).1) N := by rw [← h1]; exact mo
        have k := hQ G1 mo' ho1
        rw [← h2, show (T1, 0).2 + i = i from Nat.zero_add i] at k
        exact k
      obtain ⟨f, cu, nu, no, co, tk, kd, vl, on, rp, me, dp, fr, fm, pl, sm, rs, ⟨hH, hF, hCu, hNu, hNo, hCo, hTk, hKd, hVl, hOn, hRp, hMe, hDp, hFr, hFm, hPl, hSm, hRs⟩, mD, mL, mT', mB, mH, mU⟩ := mo
      have d1 := (mH t ht).1
      have d2 := (mH t ht).2.1
      rw [va_up_self] at d1 d2
      refine V_iload_n d_Mo_step_21 rfl ?_
      refine V_iload_n d_Mo_step_22 rfl ?_
      refine V_icmp_geN (tgt := 46) d_Mo_step_23 (by decide) (by omega) (by omega) (fun hb23 => ?_) (fun hb23 => ?_)
      · refine V_iload_n d_Mo_step_46 rfl ?_
        exact V_ireturn d_Mo_step_47 rfl (done (by omega))
      · refine V_aload_n d_Mo_step_26 rfl ?_
        refine V_getf d_Mo_step_27 f_Mo_48 hH rfl ?_
        refine V_iload_n d_Mo_step_30 rfl ?_
        refine V_iaload (j := t) d_Mo_step_31 rfl hDp rfl (by omega) (by omega) ?_
        show pV Γ _ _ _ (.int (nI (dp t)) :: _) _ _ _ _ _
        refine V_if_leN (tgt := 46) d_Mo_step_32 (by decide) (by omega) (fun hb32 => ?_) (fun hb32 => ?_)
        · refine V_iload_n d_Mo_step_46 rfl ?_
          exact V_ireturn d_Mo_step_47 rfl (done (by omega))
        · refine V_aload_n d_Mo_step_35 rfl ?_
          refine V_iload_n d_Mo_step_36 rfl ?_
          refine V_callV (As := [.int (nI t)]) (rest := []) (lo' := [some (.ref m), some (.int (nI t)), none, none, none, none, none, none]) (bc1 := 0) (bs1 := 0) (bc' := 0) (bs' := 0) d_Mo_step_37 k_Mo_step_152 hH rfl rfl rfl rfl (by rfl) (by rfl) ?_
          refine cm_once mo1 ht hg hok1 (by rw [va_up_self]; omega) (fun G2 mo2 ho2 => ?_)
          show pV Γ m_Mo_step 40 [some (.ref m), some (.int (nI t)), some (.int (nI s)), some (.int (nI i))] [] _ G2 0 0 Q
          refine V_iincN d_Mo_step_40 rfl ?_
          show pV Γ _ _ [some (.ref m), some (.int (nI t)), some (.int (nI s)), some (.int (nI (i + 1)))] _ _ _ _ _ _
          refine V_goto (tgt := 21) d_Mo_step_43 (by decide) ?_
          have e1 : T1.1 ≠ 0 := by omega
          rw [show s - i = (s - (i + 1)) + 1 by omega, stp_go e1] at h1 h2
          have mo3 : isMo G2 m D ch ld trs nb bt (va_up th t (pStep ld T1)) N := by
            have z := mo2
            rw [va_up_self, va_up_twice] at z
            exact z
          exact ih (i + 1) (by omega) (by omega) G2 (pStep ld T1) mo3 (okT.step hg e1 hokT) h1 (by omega) (fun q hq => by rw [ho2 q hq, ho1 q hq])
  refine V_iload_n d_Mo_step_0 rfl ?_
  refine V_callS (As := [.int (nI t)]) (rest := []) (lo' := [some (.int (nI t))]) (bc1 := 0) (bs1 := 0) (bc' := 0) (bs' := 0) d_Mo_step_1 k_Mo_step_146 rfl rfl rfl rfl (by rfl) (by rfl) ?_
  refine c_Mo_isThread ?_
  show pV Γ m_Mo_step 4 [some (.ref m), some (.int (nI t)), some (.int (nI s)), none] [.int (pB (∃ j, j < 3 ∧ nI t = nI j))] _ G 0 0 Q
  refine V_if_eqB (tgt := 17) d_Mo_step_4 (by decide) (fun hb4 => ?_) (fun hb4 => ?_)
  · refine V_iconst (v := (-1)) d_Mo_step_17 (by decide +kernel) ?_
    exact V_ireturn d_Mo_step_18 rfl (by first | exact absurd ⟨t, ht, rfl⟩ hb4 | exact absurd hb14 (by omega))
  · refine V_iload_n d_Mo_step_7 rfl ?_
    refine V_if_ltN (tgt := 17) d_Mo_step_8 (by decide) (by omega) ?_
    refine V_iload_n d_Mo_step_11 rfl ?_
    refine V_bipush (v := nI 100) d_Mo_step_12 (by decide +kernel) ?_
    refine V_icmp_leN (tgt := 19) d_Mo_step_14 (by decide) (by omega) (by omega) (fun hb14 => ?_) (fun hb14 => ?_)
    · refine V_iconst (v := nI 0) d_Mo_step_19 (by decide +kernel) ?_
      refine V_istore_n d_Mo_step_20 (Nat.le_of_ble_eq_true rfl) ?_
      show pV Γ _ _ [some (.ref m), some (.int (nI t)), some (.int (nI s)), some (.int (nI 0))] _ _ _ _ _ _
      exact loop (s + 1) 0 (by omega) (by omega) G (th t) (by rw [va_up_id]; exact mo) hok rfl rfl (fun q _ => rfl)
    · refine V_iconst (v := (-1)) d_Mo_step_17 (by decide +kernel) ?_
      exact V_ireturn d_Mo_step_18 rfl (by first | exact absurd ⟨t, ht, rfl⟩ hb4 | exact absurd hb14 (by omega))
theorem c_Mo_stepF {Γ : pmE} {G : pmG} {n : Nat} {Q : pmPost} {m : Nat} {z y : Int32} (hz : (¬ ∃ j, j < 3 ∧ z = nI j) ∨ y < 0 ∨ nI 100 < y) (hN : Q (some (.int (-1))) n G) : pV Γ m_Mo_step 0 [some (.ref m), some (.int z), some (.int y), none] [] n G 0 0 Q := by
  refine V_iload_n d_Mo_step_0 rfl ?_
  refine V_callS (As := [.int z]) (rest := []) (lo' := [some (.int z)]) (bc1 := 0) (bs1 := 0) (bc' := 0) (bs' := 0) d_Mo_step_1 k_Mo_step_146 rfl rfl rfl rfl (by rfl) (by rfl) ?_
  refine c_Mo_isThread ?_
  show pV Γ m_Mo_step 4 [some (.ref m), some (.int z), some (.int y), none] [.int (pB (∃ j, j < 3 ∧ z = nI j))] _ G 0 0 Q
  refine V_if_eqB (tgt := 17) d_Mo_step_4 (by decide) (fun hb4 => ?_) (fun hb4 => ?_)
  · refine V_iconst (v := (-1)) d_Mo_step_17 (by decide +kernel) ?_
    exact V_ireturn d_Mo_step_18 rfl (hN)
  · refine V_iload_n d_Mo_step_7 rfl ?_
    refine V_if_lt (tgt := 17) d_Mo_step_8 (by decide) (fun hb8 => ?_) (fun hb8 => ?_)
    · refine V_iconst (v := (-1)) d_Mo_step_17 (by decide +kernel) ?_
      exact V_ireturn d_Mo_step_18 rfl (hN)
    · refine V_iload_n d_Mo_step_11 rfl ?_
      refine V_bipush (v := nI 100) d_Mo_step_12 (by decide +kernel) ?_
      refine V_icmp_le (tgt := 19) d_Mo_step_14 (by decide) (fun hb14 => ?_) (fun hb14 => ?_)
      · exact absurd hz (fun e => e.elim (fun e => e hb4) (fun e => e.elim hb8 (fun e => absurd hb14 (Int32.not_le.mpr e))))
      · refine V_iconst (v := (-1)) d_Mo_step_17 (by decide +kernel) ?_
        exact V_ireturn d_Mo_step_18 rfl (hN)
