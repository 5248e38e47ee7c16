/-! What a state of the system is. Lists are lengths with functions; only the prefixes count. -/
-- a definition: parts; interfaces; fields (three cells each); methods (names, flags, lengths, cells of the code)
abbrev Dfn : Type := (Nat → Int32) × (Nat × (Nat → Int32)) × (Nat × (Nat → Int32)) × Nat × (Nat → Int32) × (Nat → Int32) × (Nat → Nat) × (Nat → Nat → Int32)
abbrev dP (D : Dfn) : Nat → Int32 := D.1
abbrev dNi (D : Dfn) : Nat := D.2.1.1
abbrev dI (D : Dfn) : Nat → Int32 := D.2.1.2
abbrev dNf (D : Dfn) : Nat := D.2.2.1.1
abbrev dF (D : Dfn) : Nat → Int32 := D.2.2.1.2
abbrev dNm (D : Dfn) : Nat := D.2.2.2.1
abbrev dN (D : Dfn) : Nat → Int32 := D.2.2.2.2.1
abbrev dG (D : Dfn) : Nat → Int32 := D.2.2.2.2.2.1
abbrev dL (D : Dfn) : Nat → Nat := D.2.2.2.2.2.2.1
abbrev dC (D : Dfn) : Nat → Nat → Int32 := D.2.2.2.2.2.2.2
def dOk (D : Dfn) : Prop := dNi D ≤ 3 ∧ dNf D ≤ 4 ∧ dNm D ≤ 4 ∧ ∀ j, j < dNm D → dL D j ≤ 6
-- the cells of the class
def isCode (G : pmG) (a len : Nat) (c : Nat → Int32) : Prop := len ≤ 6 ∧ G a = some (.inr (kCd, [.ref (a + 1), .int (nI len)])) ∧ ∃ f : Nat → Int32, G (a + 1) = some (.inl (0, 18, .inl f)) ∧ ∀ k, k < 3 * len → f k = c k
def isMth (G : pmG) (a : Nat) (nm fl : Int32) (len : Nat) (c : Nat → Int32) : Prop := G a = some (.inr (kMt, [.int nm, .int fl, .ref (a + 1)])) ∧ isCode G (a + 1) len c
def anMth (G : pmG) (a : Nat) : Prop := ∃ nm fl len c, isMth G a nm fl len c
def isDef (G : pmG) (a : Nat) (D : Dfn) : Prop := dOk D ∧ G a = some (.inr (kDf, [.ref (a + 1), .ref (a + 2), .int (nI (dNi D)), .ref (a + 3), .int (nI (dNf D)), .ref (a + 4), .int (nI (dNm D))])) ∧
  (∃ f, G (a + 1) = some (.inl (0, 5, .inl f)) ∧ ∀ k, k < 5 → f k = dP D k) ∧ (∃ f, G (a + 2) = some (.inl (0, 3, .inl f)) ∧ ∀ k, k < dNi D → f k = dI D k) ∧ (∃ f, G (a + 3) = some (.inl (0, 12, .inl f)) ∧ ∀ k, k < 3 * dNf D → f k = dF D k) ∧
  (∃ f, G (a + 4) = some (.inl (kMt + 2, 4, .inr (.inr (.inr (.inr f))))) ∧ ∀ j, j < 4 → f j = some (a + 5 + 3 * j)) ∧ (∀ j, j < 4 → anMth G (a + 5 + 3 * j)) ∧ ∀ j, j < dNm D → isMth G (a + 5 + 3 * j) (dN D j) (dG D j) (dL D j) (dC D j)
theorem isCode.kept {G G' : pmG} {a len : Nat} {c : Nat → Int32} (h : isCode G a len c) (hq : ∀ q, a ≤ q → q < a + 2 → G' q = G q) : isCode G' a len c := by
  obtain ⟨h0, h1, f, h2, h3⟩ := h
  exact ⟨h0, by rw [hq a (by omega) (by omega)]; exact h1, f, by rw [hq (a + 1) (by omega) (by omega)]; exact h2, h3⟩
theorem isMth.kept {G G' : pmG} {a : Nat} {nm fl : Int32} {len : Nat} {c : Nat → Int32} (h : isMth G a nm fl len c) (hq : ∀ q, a ≤ q → q < a + 3 → G' q = G q) : isMth G' a nm fl len c :=
  ⟨by rw [hq a (by omega) (by omega)]; exact h.1, h.2.kept fun q h1 h2 => hq q (by omega) (by omega)⟩
theorem isDef.kept {G G' : pmG} {a : Nat} {D : Dfn} (h : isDef G a D) (hq : ∀ q, a ≤ q → q < a + 17 → G' q = G q) : isDef G' a D := by
  obtain ⟨h0, h1, ⟨f1, h2, h2'⟩, ⟨f2, h3, h3'⟩, ⟨f3, h4, h4'⟩, ⟨f4, h5, h5'⟩, h6, h7⟩ := h
  refine ⟨h0, by rw [hq a (by omega) (by omega)]; exact h1, ⟨f1, by rw [hq _ (by omega) (by omega)]; exact h2, h2'⟩, ⟨f2, by rw [hq _ (by omega) (by omega)]; exact h3, h3'⟩, ⟨f3, by rw [hq _ (by omega) (by omega)]; exact h4, h4'⟩, ⟨f4, by rw [hq _ (by omega) (by omega)]; exact h5, h5'⟩, fun j hj => ?_, fun j hj => ?_⟩
  · obtain ⟨nm, fl, len, c, hm⟩ := h6 j hj
    exact ⟨nm, fl, len, c, hm.kept fun q g1 g2 => hq q (by omega) (by omega)⟩
  · have hn := h0.2.2.1
    exact (h7 j hj).kept fun q g1 g2 => hq q (by omega) (by omega)
