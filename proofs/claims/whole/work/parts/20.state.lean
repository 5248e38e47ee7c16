/-! What a state of the system is. Lists are lengths with functions; only the prefixes count. -/
-- a definition: parts; interfaces; fields (three cells each); methods (names, flags, lengths, cells of the code)
abbrev Dfn : Type := (Nat → Int32) × (Nat × (Nat → Int32)) × (Nat × (Nat → Int32)) × Nat × (Nat → Int32) × (Nat → Int32) × (Nat → Nat) × (Nat → Nat → Int32)
abbrev dP (D : Dfn) : Nat → Int32 := D.1
abbrev dNi (D : Dfn) : Nat := D.2.1.1
abbrev dI (D : Dfn) : Nat → Int32 := D.2.1.2
abbrev dNf (D : Dfn) : Nat := D.2.2.1.1
abbrev dF (D : Dfn) : Nat → Int32 := D.2.2.1.2
abbrev dNm (D : Dfn) : Nat := D.2.2.2.1
abbrev dN (D : Dfn) : Nat → Int32 := D.2.2.2.2.1
abbrev dG (D : Dfn) : Nat → Int32 := D.2.2.2.2.2.1
abbrev dL (D : Dfn) : Nat → Nat := D.2.2.2.2.2.2.1
abbrev dC (D : Dfn) : Nat → Nat → Int32 := D.2.2.2.2.2.2.2
def dOk (D : Dfn) : Prop := dNi D ≤ 3 ∧ dNf D ≤ 4 ∧ dNm D ≤ 4 ∧ ∀ j, j < dNm D → dL D j ≤ 6
-- the cells of the class
def isCode (G : pmG) (a len : Nat) (c : Nat → Int32) : Prop := len ≤ 6 ∧ G a = some (.inr (kCd, [.ref (a + 1), .int (nI len)])) ∧ ∃ f : Nat → Int32, G (a + 1) = some (.inl (0, 18, .inl f)) ∧ ∀ k, k < 3 * len → f k = c k
def isMth (G : pmG) (a : Nat) (nm fl : Int32) (len : Nat) (c : Nat → Int32) : Prop := G a = some (.inr (kMt, [.int nm, .int fl, .ref (a + 1)])) ∧ isCode G (a + 1) len c
def anMth (G : pmG) (a : Nat) : Prop := ∃ nm fl len c, isMth G a nm fl len c
def isDfU (G : pmG) (a : Nat) (D : Dfn) (m : Nat) : Prop := dOk D ∧ G a = some (.inr (kDf, [.ref (a + 1), .ref (a + 2), .int (nI (dNi D)), .ref (a + 3), .int (nI (dNf D)), .ref (a + 4), .int (nI (dNm D))])) ∧
  (∃ f, G (a + 1) = some (.inl (0, 5, .inl f)) ∧ ∀ k, k < 5 → f k = dP D k) ∧ (∃ f, G (a + 2) = some (.inl (0, 3, .inl f)) ∧ ∀ k, k < dNi D → f k = dI D k) ∧ (∃ f, G (a + 3) = some (.inl (0, 12, .inl f)) ∧ ∀ k, k < 3 * dNf D → f k = dF D k) ∧
  (∃ f, G (a + 4) = some (.inl (kMt + 2, 4, .inr (.inr (.inr (.inr f))))) ∧ ∀ j, j < 4 → f j = some (a + 5 + 3 * j)) ∧ (∀ j, j < 4 → anMth G (a + 5 + 3 * j)) ∧ ∀ j, j < m → isMth G (a + 5 + 3 * j) (dN D j) (dG D j) (dL D j) (dC D j)
def isDef (G : pmG) (a : Nat) (D : Dfn) : Prop := isDfU G a D (dNm D)
theorem isCode.kept {G G' : pmG} {a len : Nat} {c : Nat → Int32} (h : isCode G a len c) (hq : ∀ q, a ≤ q → q < a + 2 → G' q = G q) : isCode G' a len c := by
  obtain ⟨h0, h1, f, h2, h3⟩ := h
  exact ⟨h0, by rw [hq a (by omega) (by omega)]; exact h1, f, by rw [hq (a + 1) (by omega) (by omega)]; exact h2, h3⟩
theorem isMth.kept {G G' : pmG} {a : Nat} {nm fl : Int32} {len : Nat} {c : Nat → Int32} (h : isMth G a nm fl len c) (hq : ∀ q, a ≤ q → q < a + 3 → G' q = G q) : isMth G' a nm fl len c :=
  ⟨by rw [hq a (by omega) (by omega)]; exact h.1, h.2.kept fun q h1 h2 => hq q (by omega) (by omega)⟩
theorem isDfU.kept {G G' : pmG} {a m : Nat} {D : Dfn} (h : isDfU G a D m) (hm : m ≤ 4) (hq : ∀ q, a ≤ q → q < a + 17 → G' q = G q) : isDfU G' a D m := by
  obtain ⟨h0, h1, ⟨f1, h2, h2'⟩, ⟨f2, h3, h3'⟩, ⟨f3, h4, h4'⟩, ⟨f4, h5, h5'⟩, h6, h7⟩ := h
  refine ⟨h0, by rw [hq a (by omega) (by omega)]; exact h1, ⟨f1, by rw [hq _ (by omega) (by omega)]; exact h2, h2'⟩, ⟨f2, by rw [hq _ (by omega) (by omega)]; exact h3, h3'⟩, ⟨f3, by rw [hq _ (by omega) (by omega)]; exact h4, h4'⟩, ⟨f4, by rw [hq _ (by omega) (by omega)]; exact h5, h5'⟩, fun j hj => ?_, fun j hj => ?_⟩
  · obtain ⟨nm, fl, len, c, hm⟩ := h6 j hj
    exact ⟨nm, fl, len, c, hm.kept fun q g1 g2 => hq q (by omega) (by omega)⟩
  · exact (h7 j hj).kept fun q g1 g2 => hq q (by omega) (by omega)
theorem isDef.kept {G G' : pmG} {a : Nat} {D : Dfn} (h : isDef G a D) (hq : ∀ q, a ≤ q → q < a + 17 → G' q = G q) : isDef G' a D := isDfU.kept h h.1.2.2.1 hq
def dSetM (D : Dfn) (j : Nat) (nm fl : Int32) (len : Nat) (c : Nat → Int32) : Dfn := (dP D, (dNi D, dI D), (dNf D, dF D), dNm D, upd (dN D) j nm, upd (dG D) j fl, va_up (dL D) j len, va_up (dC D) j c)
def dSetP (D : Dfn) (f : Nat → Int32) : Dfn := (f, (dNi D, dI D), (dNf D, dF D), dNm D, dN D, dG D, dL D, dC D)
theorem isDfU.mth {G G' : pmG} {a m j : Nat} {D : Dfn} {nm fl : Int32} {len : Nat} {c : Nat → Int32} (h : isDfU G a D m) (hm4 : m ≤ 4) (hj : j < 4) (hm : isMth G' (a + 5 + 3 * j) nm fl len c) (hq : ∀ q, (q < a + 5 + 3 * j ∨ a + 5 + 3 * j + 3 ≤ q) → G' q = G q) : isDfU G' a (dSetM D j nm fl len c) m := by
  obtain ⟨⟨o1, o2, o3, o4⟩, h1, ⟨f1, h2, h2'⟩, ⟨f2, h3, h3'⟩, ⟨f3, h4, h4'⟩, ⟨f4, h5, h5'⟩, h6, h7⟩ := h
  refine ⟨⟨o1, o2, o3, fun i hi => ?_⟩, by rw [hq a (by omega)]; exact h1, ⟨f1, by rw [hq _ (by omega)]; exact h2, h2'⟩, ⟨f2, by rw [hq _ (by omega)]; exact h3, h3'⟩, ⟨f3, by rw [hq _ (by omega)]; exact h4, h4'⟩, ⟨f4, by rw [hq _ (by omega)]; exact h5, h5'⟩, fun i hi => ?_, fun i hi => ?_⟩
  · show va_up (dL D) j len i ≤ 6
    by_cases hij : i = j
    · subst hij; rw [va_up_self]; exact hm.2.1
    · rw [va_up_ne _ _ hij]; exact o4 i hi
  · by_cases hij : i = j
    · subst hij; exact ⟨_, _, _, _, hm⟩
    · obtain ⟨nm', fl', len', c', hm'⟩ := h6 i hi
      exact ⟨nm', fl', len', c', hm'.kept fun q g1 g2 => hq q (by omega)⟩
  · show isMth G' _ (upd (dN D) j nm i) (upd (dG D) j fl i) (va_up (dL D) j len i) (va_up (dC D) j c i)
    by_cases hij : i = j
    · subst hij; rw [pk_us, pk_us, va_up_self, va_up_self]; exact hm
    · rw [pk_un hij, pk_un hij, va_up_ne _ _ hij, va_up_ne _ _ hij]
      exact (h7 i hi).kept fun q g1 g2 => hq q (by omega)
theorem isDef.mth {G G' : pmG} {a j : Nat} {D : Dfn} {nm fl : Int32} {len : Nat} {c : Nat → Int32} (h : isDef G a D) (hj : j < 4) (hm : isMth G' (a + 5 + 3 * j) nm fl len c) (hq : ∀ q, (q < a + 5 + 3 * j ∨ a + 5 + 3 * j + 3 ≤ q) → G' q = G q) : isDef G' a (dSetM D j nm fl len c) := isDfU.mth h h.1.2.2.1 hj hm hq
theorem isDfU.step {G G' : pmG} {a i : Nat} {D : Dfn} (h : isDfU G a D i) (hi : i < 4) (hm : isMth G' (a + 5 + 3 * i) (dN D i) (dG D i) (dL D i) (dC D i)) (hq : ∀ q, (q < a + 5 + 3 * i ∨ a + 5 + 3 * i + 3 ≤ q) → G' q = G q) : isDfU G' a D (i + 1) := by
  obtain ⟨h0, h1, ⟨f1, h2, h2'⟩, ⟨f2, h3, h3'⟩, ⟨f3, h4, h4'⟩, ⟨f4, h5, h5'⟩, h6, h7⟩ := h
  refine ⟨h0, by rw [hq a (by omega)]; exact h1, ⟨f1, by rw [hq _ (by omega)]; exact h2, h2'⟩, ⟨f2, by rw [hq _ (by omega)]; exact h3, h3'⟩, ⟨f3, by rw [hq _ (by omega)]; exact h4, h4'⟩, ⟨f4, by rw [hq _ (by omega)]; exact h5, h5'⟩, fun j hj => ?_, fun j hj => ?_⟩
  · by_cases hij : j = i
    · subst hij; exact ⟨_, _, _, _, hm⟩
    · obtain ⟨nm', fl', len', c', hm'⟩ := h6 j hj
      exact ⟨nm', fl', len', c', hm'.kept fun q g1 g2 => hq q (by omega)⟩
  · by_cases hij : j = i
    · subst hij; exact hm
    · exact (h7 j (by omega)).kept fun q g1 g2 => hq q (by omega)
theorem isDef.parts {G G' : pmG} {a : Nat} {D : Dfn} {f P : Nat → Int32} (h : isDef G a D) (hp : G' (a + 1) = some (.inl (0, 5, .inl f))) (hf : ∀ k, k < 5 → f k = P k) (hq : ∀ q, q ≠ a + 1 → G' q = G q) : isDef G' a (dSetP D P) := by
  obtain ⟨h0, h1, ⟨f1, h2, h2'⟩, ⟨f2, h3, h3'⟩, ⟨f3, h4, h4'⟩, ⟨f4, h5, h5'⟩, h6, h7⟩ := h
  have hm4 := h0.2.2.1
  refine ⟨h0, by rw [hq a (by omega)]; exact h1, ⟨f, hp, hf⟩, ⟨f2, by rw [hq _ (by omega)]; exact h3, h3'⟩, ⟨f3, by rw [hq _ (by omega)]; exact h4, h4'⟩, ⟨f4, by rw [hq _ (by omega)]; exact h5, h5'⟩, fun j hj => ?_, fun j hj => ?_⟩
  · obtain ⟨nm', fl', len', c', hm'⟩ := h6 j hj
    exact ⟨nm', fl', len', c', hm'.kept fun q g1 g2 => hq q (by omega)⟩
  · exact (h7 j hj).kept fun q g1 g2 => hq q (by omega)
noncomputable def pI {α : Type} (p : Prop) (x y : α) : α := @ite α p (Classical.propDecidable p) x y
theorem pI_t {α : Type} {p : Prop} {x y : α} (h : p) : pI p x y = x := if_pos h
theorem pI_f {α : Type} {p : Prop} {x y : α} (h : ¬ p) : pI p x y = y := if_neg h
theorem pB_inj {p q : Prop} (h : pB p = pB q) : p ↔ q := by
  by_cases hp : p <;> by_cases hq : q
  · exact ⟨fun _ => hq, fun _ => hp⟩
  · rw [pB_t hp, pB_f hq] at h; exact absurd h (by decide)
  · rw [pB_f hp, pB_t hq] at h; exact absurd h (by decide)
  · exact ⟨fun h => absurd h hp, fun h => absurd h hq⟩
theorem upd_same (f : Nat → Int32) (k : Nat) : upd f k (f k) = f := by
  funext j
  by_cases h : j = k
  · rw [h, pk_us]
  · rw [pk_un h]
theorem up_same {α : Type} (f : Nat → α) (k : Nat) : va_up f k (f k) = f := by
  funext j
  by_cases h : j = k
  · rw [h, va_up_self]
  · rw [va_up_ne _ _ h]
-- a class that is loaded, a definition on its way, a transformer
def isLd (G : pmG) (b e : Nat) (D O : Dfn) : Prop := G b = some (.inr (kLc, [.int (nI e), .ref (b + 1), .ref (b + 18)])) ∧ isDef G (b + 1) D ∧ isDef G (b + 18) O
def isTr (G : pmG) (b : Nat) (t : Int32) (D O : Dfn) : Prop := G b = some (.inr (kTr, [.int t, .ref (b + 1), .ref (b + 18)])) ∧ isDef G (b + 1) D ∧ isDef G (b + 18) O
theorem isLd.kept {G G' : pmG} {b e : Nat} {D O : Dfn} (h : isLd G b e D O) (hq : ∀ q, b ≤ q → q < b + 35 → G' q = G q) : isLd G' b e D O :=
  ⟨by rw [hq b (by omega) (by omega)]; exact h.1, h.2.1.kept fun q g1 g2 => hq q (by omega) (by omega), h.2.2.kept fun q g1 g2 => hq q (by omega) (by omega)⟩
theorem isTr.kept {G G' : pmG} {b : Nat} {t : Int32} {D O : Dfn} (h : isTr G b t D O) (hq : ∀ q, b ≤ q → q < b + 35 → G' q = G q) : isTr G' b t D O :=
  ⟨by rw [hq b (by omega) (by omega)]; exact h.1, h.2.1.kept fun q g1 g2 => hq q (by omega) (by omega), h.2.2.kept fun q g1 g2 => hq q (by omega) (by omega)⟩
abbrev Trf : Type := Bool × Nat × Int32 × Int32 × Bool
def isTf (G : pmG) (a : Nat) (t : Trf) : Prop := G a = some (.inr (kTf, [.int (pB (t.1 = true)), .int (nI t.2.1), .int t.2.2.1, .int t.2.2.2.1, .int (pB (t.2.2.2.2 = true))]))
theorem isTf.kept {G G' : pmG} {a : Nat} {t : Trf} (h : isTf G a t) (hq : ∀ q, a ≤ q → q < a + 1 → G' q = G q) : isTf G' a t := by
  unfold isTf
  rw [hq a (by omega) (by omega)]
  exact h
