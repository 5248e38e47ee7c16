/-! V's rows over numbers that are nI of a natural number. -/
noncomputable def pB (p : Prop) : Int32 := @ite _ p (Classical.propDecidable p) (nI 1) (nI 0)
theorem pB_t {p : Prop} (h : p) : pB p = nI 1 := if_pos h
theorem pB_f {p : Prop} (h : ¬ p) : pB p = nI 0 := if_neg h
theorem pB_c {p q : Prop} (h : p ↔ q) : pB p = pB q := by rw [propext h]
theorem pB_or (p : Prop) : pB p = nI 0 ∨ pB p = nI 1 := by
  by_cases h : p
  · exact Or.inr (pB_t h)
  · exact Or.inl (pB_f h)
theorem pB_nar (p : Prop) : narrow .boolean (.int (pB p)) = .int (pB p) := by rcases pB_or p with h | h <;> rw [h] <;> rfl
theorem pB_fit (p : Prop) : fits .boolean (.int (pB p)) = true := by rcases pB_or p with h | h <;> rw [h] <;> rfl
section VNAT
variable {Γ : pmE} {M : pmM} {pc : Nat} {lo : pmLo} {st : List Value} {n : Nat} {G : pmG} {bc bs : Nat} {Q : pmPost} {a b : Nat}
theorem V_iaddN (hd : decode M.2.1 pc = .ok (.iadd, 1)) (k : pV Γ M (pc + 1) lo (.int (nI (a + b)) :: st) n G bc bs Q) : pV Γ M pc lo (.int (nI b) :: .int (nI a) :: st) n G bc bs Q := V_iadd hd (by rw [nI_add]; exact k)
theorem V_imulN (hd : decode M.2.1 pc = .ok (.imul, 1)) (k : pV Γ M (pc + 1) lo (.int (nI (a * b)) :: st) n G bc bs Q) : pV Γ M pc lo (.int (nI b) :: .int (nI a) :: st) n G bc bs Q := V_imul hd (by rw [pk_mul]; exact k)
theorem V_isubN (hd : decode M.2.1 pc = .ok (.isub, 1)) (h : b ≤ a) (k : pV Γ M (pc + 1) lo (.int (nI (a - b)) :: st) n G bc bs Q) : pV Γ M pc lo (.int (nI b) :: .int (nI a) :: st) n G bc bs Q := V_isub hd (by rw [pk_sub h]; exact k)
theorem V_iincN {i : Nat} (hd : decode M.2.1 pc = .ok (.iinc i 1, 3)) (hl : lo[i]? = some (some (.int (nI a)))) (k : pV Γ M (pc + 3) (lo.set i (some (.int (nI (a + 1))))) st n G bc bs Q) : pV Γ M pc lo st n G bc bs Q := V_iinc hd hl (by show nI a + 1 = _; exact nI_1 a) k
theorem V_icmp_ltN {off : Int} {tgt : Nat} (hd : decode M.2.1 pc = .ok (.if_icmp .lt off, 3)) (ht : (pc : Int) + off = (tgt : Int)) (ha : a < 2 ^ 31) (hb : b < 2 ^ 31) (kt : a < b → pV Γ M tgt lo st n G bc bs Q) (kf : b ≤ a → pV Γ M (pc + 3) lo st n G bc bs Q) : pV Γ M pc lo (.int (nI b) :: .int (nI a) :: st) n G bc bs Q :=
  V_icmp_lt hd ht (fun h => kt ((nI_ltI ha hb).mp h)) (fun h => kf (Nat.not_lt.mp fun q => h ((nI_ltI ha hb).mpr q)))
theorem V_icmp_geN {off : Int} {tgt : Nat} (hd : decode M.2.1 pc = .ok (.if_icmp .ge off, 3)) (ht : (pc : Int) + off = (tgt : Int)) (ha : a < 2 ^ 31) (hb : b < 2 ^ 31) (kt : b ≤ a → pV Γ M tgt lo st n G bc bs Q) (kf : a < b → pV Γ M (pc + 3) lo st n G bc bs Q) : pV Γ M pc lo (.int (nI b) :: .int (nI a) :: st) n G bc bs Q :=
  V_icmp_ge hd ht (fun h => kt ((nI_leI hb ha).mp h)) (fun h => kf (Nat.not_le.mp fun q => h ((nI_leI hb ha).mpr q)))
theorem V_icmp_gtN {off : Int} {tgt : Nat} (hd : decode M.2.1 pc = .ok (.if_icmp .gt off, 3)) (ht : (pc : Int) + off = (tgt : Int)) (ha : a < 2 ^ 31) (hb : b < 2 ^ 31) (kt : b < a → pV Γ M tgt lo st n G bc bs Q) (kf : a ≤ b → pV Γ M (pc + 3) lo st n G bc bs Q) : pV Γ M pc lo (.int (nI b) :: .int (nI a) :: st) n G bc bs Q :=
  V_icmp_gt hd ht (fun h => kt ((nI_ltI hb ha).mp h)) (fun h => kf (Nat.not_lt.mp fun q => h ((nI_ltI hb ha).mpr q)))
theorem V_icmp_leN {off : Int} {tgt : Nat} (hd : decode M.2.1 pc = .ok (.if_icmp .le off, 3)) (ht : (pc : Int) + off = (tgt : Int)) (ha : a < 2 ^ 31) (hb : b < 2 ^ 31) (kt : a ≤ b → pV Γ M tgt lo st n G bc bs Q) (kf : b < a → pV Γ M (pc + 3) lo st n G bc bs Q) : pV Γ M pc lo (.int (nI b) :: .int (nI a) :: st) n G bc bs Q :=
  V_icmp_le hd ht (fun h => kt ((nI_leI ha hb).mp h)) (fun h => kf (Nat.not_le.mp fun q => h ((nI_leI ha hb).mpr q)))
theorem V_icmp_eqN {off : Int} {tgt : Nat} (hd : decode M.2.1 pc = .ok (.if_icmp .eq off, 3)) (ht : (pc : Int) + off = (tgt : Int)) (ha : a < 2 ^ 31) (hb : b < 2 ^ 31) (kt : a = b → pV Γ M tgt lo st n G bc bs Q) (kf : a ≠ b → pV Γ M (pc + 3) lo st n G bc bs Q) : pV Γ M pc lo (.int (nI b) :: .int (nI a) :: st) n G bc bs Q :=
  V_icmp_eq hd ht (fun h => kt ((nI_eq ha hb).mp h)) (fun h => kf (fun q => h ((nI_eq ha hb).mpr q)))
theorem V_icmp_neN {off : Int} {tgt : Nat} (hd : decode M.2.1 pc = .ok (.if_icmp .ne off, 3)) (ht : (pc : Int) + off = (tgt : Int)) (ha : a < 2 ^ 31) (hb : b < 2 ^ 31) (kt : a ≠ b → pV Γ M tgt lo st n G bc bs Q) (kf : a = b → pV Γ M (pc + 3) lo st n G bc bs Q) : pV Γ M pc lo (.int (nI b) :: .int (nI a) :: st) n G bc bs Q :=
  V_icmp_ne hd ht (fun h => kt (fun q => h ((nI_eq ha hb).mpr q))) (fun h => kf ((nI_eq ha hb).mp h))
theorem V_if_eqN {off : Int} {tgt : Nat} (hd : decode M.2.1 pc = .ok (.ifCond .eq off, 3)) (ht : (pc : Int) + off = (tgt : Int)) (ha : a < 2 ^ 31) (kt : a = 0 → pV Γ M tgt lo st n G bc bs Q) (kf : a ≠ 0 → pV Γ M (pc + 3) lo st n G bc bs Q) : pV Γ M pc lo (.int (nI a) :: st) n G bc bs Q :=
  V_if_eq hd ht (fun h => kt (by rw [← nI_0] at h; exact (nI_eq ha (by omega)).mp h)) (fun h => kf (fun q => h (by rw [q]; exact nI_0)))
theorem V_if_neN {off : Int} {tgt : Nat} (hd : decode M.2.1 pc = .ok (.ifCond .ne off, 3)) (ht : (pc : Int) + off = (tgt : Int)) (ha : a < 2 ^ 31) (kt : a ≠ 0 → pV Γ M tgt lo st n G bc bs Q) (kf : a = 0 → pV Γ M (pc + 3) lo st n G bc bs Q) : pV Γ M pc lo (.int (nI a) :: st) n G bc bs Q :=
  V_if_ne hd ht (fun h => kt (fun q => h (by rw [q]; exact nI_0))) (fun h => kf (by rw [← nI_0] at h; exact (nI_eq ha (by omega)).mp h))
theorem V_if_ltN {off : Int} {tgt : Nat} (hd : decode M.2.1 pc = .ok (.ifCond .lt off, 3)) (ht : (pc : Int) + off = (tgt : Int)) (ha : a < 2 ^ 31) (kf : pV Γ M (pc + 3) lo st n G bc bs Q) : pV Γ M pc lo (.int (nI a) :: st) n G bc bs Q :=
  V_if_lt hd ht (fun h => absurd h (nI_pos ha)) (fun _ => kf)
theorem V_if_leN {off : Int} {tgt : Nat} (hd : decode M.2.1 pc = .ok (.ifCond .le off, 3)) (ht : (pc : Int) + off = (tgt : Int)) (ha : a < 2 ^ 31) (kt : a = 0 → pV Γ M tgt lo st n G bc bs Q) (kf : 0 < a → pV Γ M (pc + 3) lo st n G bc bs Q) : pV Γ M pc lo (.int (nI a) :: st) n G bc bs Q :=
  V_if_le hd ht (fun h => kt (by rw [← nI_0] at h; have := (nI_leI ha (by omega)).mp h; omega)) (fun h => kf (by
    rw [← nI_0] at h
    rcases Nat.eq_zero_or_pos a with q | q
    · exact absurd (by rw [q]; exact (nI_leI (by omega) (by omega)).mpr (Nat.le_refl _)) h
    · exact q))
-- a truth value decides
theorem V_if_eqB {p : Prop} {off : Int} {tgt : Nat} (hd : decode M.2.1 pc = .ok (.ifCond .eq off, 3)) (ht : (pc : Int) + off = (tgt : Int)) (kt : ¬ p → pV Γ M tgt lo st n G bc bs Q) (kf : p → pV Γ M (pc + 3) lo st n G bc bs Q) : pV Γ M pc lo (.int (pB p) :: st) n G bc bs Q := by
  by_cases h : p
  · rw [pB_t h]
    exact V_if_eqN hd ht (by omega) (fun q => absurd q (by omega)) (fun _ => kf h)
  · rw [pB_f h]
    exact V_if_eqN hd ht (by omega) (fun _ => kt h) (fun q => absurd rfl q)
theorem V_if_neB {p : Prop} {off : Int} {tgt : Nat} (hd : decode M.2.1 pc = .ok (.ifCond .ne off, 3)) (ht : (pc : Int) + off = (tgt : Int)) (kt : p → pV Γ M tgt lo st n G bc bs Q) (kf : ¬ p → pV Γ M (pc + 3) lo st n G bc bs Q) : pV Γ M pc lo (.int (pB p) :: st) n G bc bs Q := by
  by_cases h : p
  · rw [pB_t h]
    exact V_if_neN hd ht (by omega) (fun _ => kt h) (fun q => absurd q (by omega))
  · rw [pB_f h]
    exact V_if_neN hd ht (by omega) (fun q => absurd rfl q) (fun _ => kf h)
end VNAT
