/-! The reference's cells and the one mathematical state. -/
def moRaw (G : pmG) (m : Nat) (ch ba : Int32) (f : Nat → Int32) (cu nu no co : Nat → Nat) (tk : Nat → Bool) (kd : Nat → Nat) (vl on : Nat → Int32) (rp : Nat → Bool) (me : Nat → Int32) (dp fr fm pl : Nat → Nat) (sm rs : Nat → Int32) : Prop := G m = some (.inr (kMo, moFs m ch ba)) ∧ G (m + 1) = some (.inl (0, 4387, .inl f)) ∧ G (m + 2) = some (.inl (0, 6, .inl (fun j => nI (cu j)))) ∧ G (m + 3) = some (.inl (0, 6, .inl (fun j => nI (nu j)))) ∧ G (m + 4) = some (.inl (0, 41, .inl (fun j => nI (no j)))) ∧ G (m + 5) = some (.inl (0, 41, .inl (fun j => nI (co j)))) ∧ G (m + 6) = some (.inl (1, 5, .inl (fun j => pB (tk j = true)))) ∧ G (m + 7) = some (.inl (0, 5, .inl (fun j => nI (kd j)))) ∧ G (m + 8) = some (.inl (0, 5, .inl vl)) ∧ G (m + 9) = some (.inl (0, 5, .inl on)) ∧ G (m + 10) = some (.inl (1, 5, .inl (fun j => pB (rp j = true)))) ∧ G (m + 11) = some (.inl (0, 3, .inl me)) ∧ G (m + 12) = some (.inl (0, 3, .inl (fun j => nI (dp j)))) ∧ G (m + 13) = some (.inl (0, 15, .inl (fun j => nI (fr j)))) ∧ G (m + 14) = some (.inl (0, 15, .inl (fun j => nI (fm j)))) ∧ G (m + 15) = some (.inl (0, 15, .inl (fun j => nI (pl j)))) ∧ G (m + 16) = some (.inl (0, 15, .inl sm)) ∧ G (m + 17) = some (.inl (0, 3, .inl rs))
def fmR (f : Nat → Int32) (no co : Nat → Nat) (r i p : Nat) (s : Int32) (F : Frm) : Prop := 17 ≤ r ∧ r < 41 ∧ F.1 = nI (co r) ∧ F.2.1 = nI (no r) ∧ F.2.2.1 ≤ 6 ∧ (∃ j, j < 4 ∧ i = 23 + 21 * j) ∧ f (107 * r + (i + 2)) = nI F.2.2.1 ∧ (∀ x, x < 3 * F.2.2.1 → f (107 * r + (i + 3 + x)) = F.2.2.2.1 x) ∧ p = F.2.2.2.2.1 ∧ F.2.2.2.2.1 ≤ F.2.2.1 ∧ s = F.2.2.2.2.2
def moLs (f : Nat → Int32) (cu nu no co : Nat → Nat) (ld : LdS) : Prop := moL f cu ld ∧ ∀ c, c < 6 → (∀ L, ld c = some L → nu c = L.1 ∧ no (cu c) = L.1 ∧ co (cu c) = c ∧ isRow f (1 + c) L.2.2) ∧ (ld c = none → nu c = 0)
def moTs (tk : Nat → Bool) (kd : Nat → Nat) (vl on : Nat → Int32) (rp : Nat → Bool) (trs : Nat → Trf) : Prop := ∀ k, k < 5 → tk k = (trs k).1 ∧ kd k ≤ 4 ∧ (tk k = true → trs k = mT tk kd vl on rp k)
def moBs (f me : Nat → Int32) (nb : Nat) (bt : Nat → Int32 × Dfn) : Prop := nb ≤ 3 ∧ ∀ i, i < nb → isRow f (7 + i) (bt i).2 ∧ me i = (bt i).1
def moHs (f : Nat → Int32) (no co dp fr fm pl : Nat → Nat) (sm rs : Nat → Int32) (th : Nat → Thr) : Prop := ∀ t, t < 3 → dp t = (th t).1 ∧ (th t).1 ≤ 5 ∧ rs t = (th t).2.2 ∧ ∀ k, k < dp t → fmR f no co (fr (5 * t + k)) (fm (5 * t + k)) (pl (5 * t + k)) (sm (5 * t + k)) ((th t).2.1 k)
def moUs (cu nu no co dp fr : Nat → Nat) (N : Nat) : Prop := (∀ q, q < 15 → fr q < 41) ∧ (∀ r, r < 41 → co r < 6) ∧ (∀ r, 17 ≤ r → inUs cu dp fr r → no r ≤ nu (co r)) ∧ (∀ r r', 17 ≤ r → 17 ≤ r' → inUs cu dp fr r → inUs cu dp fr r' → co r = co r' → no r = no r' → r = r') ∧ ∀ c, c < 6 → nu c ≤ N
def isMo (G : pmG) (m : Nat) (D : Dfn) (ch : Option Nat) (ld : LdS) (trs : Nat → Trf) (nb : Nat) (bt : Nat → Int32 × Dfn) (th : Nat → Thr) (N : Nat) : Prop := ∃ (f : Nat → Int32) (cu nu no co : Nat → Nat) (tk : Nat → Bool) (kd : Nat → Nat) (vl on : Nat → Int32) (rp : Nat → Bool) (me : Nat → Int32) (dp fr fm pl : Nat → Nat) (sm rs : Nat → Int32), moRaw G m (chI ch) (nI nb) f cu nu no co tk kd vl on rp me dp fr fm pl sm rs ∧ isRow f 0 D ∧ moLs f cu nu no co ld ∧ moTs tk kd vl on rp trs ∧ moBs f me nb bt ∧ moHs f no co dp fr fm pl sm rs th ∧ moUs cu nu no co dp fr N
theorem isMo.kept {G G' : pmG} {m : Nat} {D : Dfn} {ch : Option Nat} {ld : LdS} {trs : Nat → Trf} {nb : Nat} {bt : Nat → Int32 × Dfn} {th : Nat → Thr} {N : Nat} (mo : isMo G m D ch ld trs nb bt th N) (hq : ∀ q, m ≤ q → q < m + 18 → G' q = G q) : isMo G' m D ch ld trs nb bt th N := by
  obtain ⟨f, cu, nu, no, co, tk, kd, vl, on, rp, me, dp, fr, fm, pl, sm, rs, ⟨hH, hF, hCu, hNu, hNo, hCo, hTk, hKd, hVl, hOn, hRp, hMe, hDp, hFr, hFm, hPl, hSm, hRs⟩, mD, mL, mT', mB, mH, mU⟩ := mo
  exact ⟨f, cu, nu, no, co, tk, kd, vl, on, rp, me, dp, fr, fm, pl, sm, rs, ⟨(hq _ (by omega) (by omega)).trans hH, (hq _ (by omega) (by omega)).trans hF, (hq _ (by omega) (by omega)).trans hCu, (hq _ (by omega) (by omega)).trans hNu, (hq _ (by omega) (by omega)).trans hNo, (hq _ (by omega) (by omega)).trans hCo, (hq _ (by omega) (by omega)).trans hTk, (hq _ (by omega) (by omega)).trans hKd, (hq _ (by omega) (by omega)).trans hVl, (hq _ (by omega) (by omega)).trans hOn, (hq _ (by omega) (by omega)).trans hRp, (hq _ (by omega) (by omega)).trans hMe, (hq _ (by omega) (by omega)).trans hDp, (hq _ (by omega) (by omega)).trans hFr, (hq _ (by omega) (by omega)).trans hFm, (hq _ (by omega) (by omega)).trans hPl, (hq _ (by omega) (by omega)).trans hSm, (hq _ (by omega) (by omega)).trans hRs⟩, mD, mL, mT', mB, mH, mU⟩
theorem fmR.kept {f g : Nat → Int32} {no co no' co' : Nat → Nat} {r i p : Nat} {s : Int32} {F : Frm} (h : fmR f no co r i p s F) (hq : ∀ x, 107 * r ≤ x → x < 107 * r + 107 → g x = f x) (h1 : no' r = no r) (h2 : co' r = co r) : fmR g no' co' r i p s F := by
  obtain ⟨a1, a2, a3, a4, a5, ⟨j, hj, hi⟩, a6, a7, a8, a9, a10⟩ := h
  exact ⟨a1, a2, by rw [h2]; exact a3, by rw [h1]; exact a4, a5, ⟨j, hj, hi⟩, by rw [hq _ (by omega) (by omega)]; exact a6, fun x hx => by rw [hq _ (by omega) (by omega)]; exact a7 x hx, a8, a9, a10⟩
theorem moLs.kept {f g : Nat → Int32} {cu nu no co : Nat → Nat} {ld : LdS} (h : moLs f cu nu no co ld) (hq : ∀ x, 107 ≤ x → (x < 107 * 7 ∨ 107 * 17 ≤ x) → g x = f x) : moLs g cu nu no co ld := by
  refine ⟨fun c hc => ⟨fun L hL => ?_, (h.1 c hc).2⟩, fun c hc => ⟨fun L hL => ?_, (h.2 c hc).2⟩⟩
  · obtain ⟨a, b, d⟩ := (h.1 c hc).1 L hL
    exact ⟨a, b, d.kept fun x x1 x2 => hq x (by omega) (by omega)⟩
  · obtain ⟨a, b, d, e⟩ := (h.2 c hc).1 L hL
    exact ⟨a, b, d, e.kept fun x x1 x2 => hq x (by omega) (by omega)⟩
theorem moBs.kept {f g me : Nat → Int32} {nb : Nat} {bt : Nat → Int32 × Dfn} (h : moBs f me nb bt) (hq : ∀ x, 107 * 7 ≤ x → x < 107 * 10 → g x = f x) : moBs g me nb bt :=
  ⟨h.1, fun i hi => ⟨(h.2 i hi).1.kept fun x x1 x2 => hq x (by omega) (by have := h.1; omega), (h.2 i hi).2⟩⟩
theorem moHs.kept {f g : Nat → Int32} {no co dp fr fm pl : Nat → Nat} {sm rs : Nat → Int32} {th : Nat → Thr} (h : moHs f no co dp fr fm pl sm rs th) (hq : ∀ x, 107 * 17 ≤ x → g x = f x) : moHs g no co dp fr fm pl sm rs th := fun t ht => by
  obtain ⟨a, b, c, d⟩ := h t ht
  exact ⟨a, b, c, fun k hk => (d k hk).kept (fun x x1 x2 => hq x (by have := (d k hk).1; omega)) rfl rfl⟩
theorem moLs.ren {f g : Nat → Int32} {cu nu no co : Nat → Nat} {ld : LdS} {c r : Nat} {D' O' : Dfn} (h : moLs f cu nu no co ld) (hc : c < 6) (hr : 17 ≤ r) (hr' : r < 41) (hfree : ∀ c', c' < 6 → cu c' ≠ r) (hD : isRow g r D') (hO : isRow g (1 + c) O') (hq : ∀ x, 107 ≤ x → (x < 107 * 7 ∨ 107 * 17 ≤ x) → (x < 107 * (1 + c) ∨ 107 * (1 + c) + 107 ≤ x) → (x < 107 * r ∨ 107 * r + 107 ≤ x) → g x = f x) : moLs g (va_up cu c r) (va_up nu c (nu c + 1)) (va_up no r (nu c + 1)) (va_up co r c) (va_up ld c (some (nu c + 1, D', O'))) := by
  refine ⟨fun c' hc' => ?_, fun c' hc' => ?_⟩
  · by_cases e : c' = c
    · subst e
      rw [va_up_self, va_up_self]
      exact ⟨fun L hL => by cases hL; exact ⟨hr, hr', hD⟩, fun e => by cases e⟩
    · rw [va_up_ne _ _ e, va_up_ne _ _ e]
      refine ⟨fun L hL => ?_, (h.1 c' hc').2⟩
      obtain ⟨a, b, d⟩ := (h.1 c' hc').1 L hL
      have hne := hfree c' hc'
      exact ⟨a, b, d.kept fun x x1 x2 => hq x (by omega) (by omega) (by omega) (by omega)⟩
  · by_cases e : c' = c
    · subst e
      rw [va_up_self, va_up_self, va_up_self, va_up_self, va_up_self]
      exact ⟨fun L hL => by cases hL; exact ⟨rfl, rfl, rfl, hO⟩, fun e => by cases e⟩
    · have hne := hfree c' hc'
      rw [va_up_ne _ _ e, va_up_ne _ _ e, va_up_ne _ _ e, va_up_ne _ _ hne, va_up_ne _ _ hne]
      refine ⟨fun L hL => ?_, (h.2 c' hc').2⟩
      obtain ⟨a, b, d, e'⟩ := (h.2 c' hc').1 L hL
      exact ⟨a, b, d, e'.kept fun x x1 x2 => hq x (by omega) (by omega) (by omega) (by omega)⟩
theorem moHs.ren {f g : Nat → Int32} {no co dp fr fm pl : Nat → Nat} {sm rs : Nat → Int32} {th : Nat → Thr} {r v c : Nat} (h : moHs f no co dp fr fm pl sm rs th) (hfree : ¬ inFr dp fr r) (hq : ∀ x, 107 * 17 ≤ x → (x < 107 * r ∨ 107 * r + 107 ≤ x) → g x = f x) : moHs g (va_up no r v) (va_up co r c) dp fr fm pl sm rs th := fun t ht => by
  obtain ⟨a, b, c, d⟩ := h t ht
  refine ⟨a, b, c, fun k hk => ?_⟩
  have hne : fr (5 * t + k) ≠ r := fun e => hfree ⟨t, k, ht, hk, e⟩
  have h17 := (d k hk).1
  exact (d k hk).kept (fun x x1 x2 => hq x (by omega) (by omega)) (va_up_ne _ _ hne) (va_up_ne _ _ hne)
theorem inUs_ren {cu dp fr : Nat → Nat} {c r x : Nat} (h : inUs (va_up cu c r) dp fr x) (hx : x ≠ r) : inUs cu dp fr x := by
  rcases h with h | ⟨c', hc', e⟩
  · exact Or.inl h
  · by_cases q : c' = c
    · subst q; rw [va_up_self] at e; exact absurd e.symm hx
    · rw [va_up_ne _ _ q] at e; exact Or.inr ⟨c', hc', e⟩
theorem moUs.ren {cu nu no co dp fr : Nat → Nat} {N c r : Nat} (h : moUs cu nu no co dp fr N) (hc : c < 6) (hfree : ¬ inUs cu dp fr r) : moUs (va_up cu c r) (va_up nu c (nu c + 1)) (va_up no r (nu c + 1)) (va_up co r c) dp fr (N + 1) := by
  obtain ⟨h1, h2, h3, h4, h5⟩ := h
  have key : ∀ x, 17 ≤ x → inUs (va_up cu c r) dp fr x → x ≠ r → no x ≤ nu (co x) := fun x x1 x2 x3 => h3 x x1 (inUs_ren x2 x3)
  refine ⟨h1, fun x hx => ?_, fun x x1 x2 => ?_, fun x y x1 y1 x2 y2 e1 e2 => ?_, fun c' hc' => ?_⟩
  · by_cases e : x = r
    · rw [e, va_up_self]; exact hc
    · rw [va_up_ne _ _ e]; exact h2 x hx
  · by_cases e : x = r
    · rw [e, va_up_self, va_up_self, va_up_self]; exact Nat.le_refl _
    · have := key x x1 x2 e
      rw [va_up_ne _ _ e, va_up_ne _ _ e]
      by_cases q : co x = c
      · rw [q, va_up_self]; rw [q] at this; omega
      · rw [va_up_ne _ _ q]; exact this
  · by_cases ex : x = r
    · by_cases ey : y = r
      · rw [ex, ey]
      · exfalso
        have hk := key y y1 y2 ey
        rw [ex, va_up_self, va_up_ne _ _ ey] at e1 e2
        rw [← e1] at hk
        omega
    · by_cases ey : y = r
      · exfalso
        have hk := key x x1 x2 ex
        rw [ey, va_up_self, va_up_ne _ _ ex] at e1 e2
        rw [e1] at hk
        omega
      · rw [va_up_ne _ _ ex, va_up_ne _ _ ey] at e1 e2
        exact h4 x y x1 y1 (inUs_ren x2 ex) (inUs_ren y2 ey) e1 e2
  · by_cases q : c' = c
    · have := h5 c hc
      rw [q, va_up_self]; omega
    · have := h5 c' hc'
      rw [va_up_ne _ _ q]; omega
theorem moUs.mono {cu nu no co dp fr : Nat → Nat} {N M : Nat} (h : moUs cu nu no co dp fr N) (hM : N ≤ M) : moUs cu nu no co dp fr M := ⟨h.1, h.2.1, h.2.2.1, h.2.2.2.1, fun c hc => Nat.le_trans (h.2.2.2.2 c hc) hM⟩
theorem dChgs_congr {trs trs' : Nat → Trf} {c : Int32} {rp : Bool} {D : Dfn} : ∀ n, (∀ k, k < n → (trs k).1 = (trs' k).1 ∧ ((trs k).1 = true → trs' k = trs k)) → dChgs trs c rp D n = dChgs trs' c rp D n
  | 0, _ => rfl
  | n + 1, h => by
    have ih := dChgs_congr (c := c) (rp := rp) (D := D) n (fun k hk => h k (by omega))
    obtain ⟨h1, h2⟩ := h n (by omega)
    show pI _ _ _ = pI _ _ _
    rw [ih]
    by_cases q : (trs n).1 = true
    · rw [h2 q]
    · rw [pI_f (fun e => q e.1), pI_f (fun e => q (h1.trans e.1))]
theorem moTs.chgs {tk : Nat → Bool} {kd : Nat → Nat} {vl on : Nat → Int32} {rp : Nat → Bool} {trs : Nat → Trf} (h : moTs tk kd vl on rp trs) (c : Int32) (r : Bool) (D : Dfn) : dChgs (mT tk kd vl on rp) c r D 5 = dChgs trs c r D 5 := dChgs_congr 5 (fun k hk => ⟨(h k hk).1, (h k hk).2.2⟩)
theorem moTs.or {tk : Nat → Bool} {kd : Nat → Nat} {vl on : Nat → Int32} {rp : Nat → Bool} {trs : Nat → Trf} (h : moTs tk kd vl on rp trs) (D : Dfn) (c : Int32) : dOr (mT tk kd vl on rp) D c = dOr trs D c := h.chgs c false D
theorem moTs.tr {tk : Nat → Bool} {kd : Nat → Nat} {vl on : Nat → Int32} {rp : Nat → Bool} {trs : Nat → Trf} (h : moTs tk kd vl on rp trs) (D : Dfn) (c : Int32) : dTr (mT tk kd vl on rp) D c = dTr trs D c := by
  show dChgs _ c true (dChgs _ c false D 5) 5 = dChgs _ c true (dChgs _ c false D 5) 5
  rw [h.chgs, h.chgs]
