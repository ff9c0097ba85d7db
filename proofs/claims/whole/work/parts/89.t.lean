/-! scan: a token that is met can be cut. -/
theorem rB_hM {w : MWd} {r np tp L : Nat} {u : Nat → Nat} (hA : RuleA w r np tp) (hB : RuleB w r np) (hC : RuleC w r np tp) (hu : ∀ i, i < L → u i < 8) : ∀ i p, i < L → p < 30 → rB (wFI w 328 (6 + 3 * r)) (wAI w (7 + 3 * r)) (wAI w (8 + 3 * r)) u i p → bt (wAI w (8 + 3 * r) (u i)) p = true → hM u (rFi w r) (rLa w r) (rAF w r) (rUs w r) (rFo w r np) (rLt w r np) i p
  | 0, p, hi, hp, h, h2 => ⟨h, (pl_iff hB hA.1 (hu 0 hi)).mp h2⟩
  | i + 1, p, hi, hp, ⟨q, hq, h1, h3⟩, h2 => ⟨⟨q, rB_hM hA hB hC hu i q (by omega) hq h1.1 h1.2, (fc_iff hA hB hC hq).mp h3⟩, (pl_iff hB hA.1 (hu (i + 1) hi)).mp h2⟩
theorem hit_ex {w : MWd} {r np tp L : Nat} {u : Nat → Nat} (hA : RuleA w r np tp) (hB : RuleB w r np) (hC : RuleC w r np tp) (hl1 : wAI w 133 r = Int32.ofNat 1) (hL : 1 ≤ L) (hu : ∀ i, i < L → u i < 8)
    (h : rHit (wFI w 328 (6 + 3 * r)) (wFI w 329 (6 + 3 * r)) (wAI w (7 + 3 * r)) (wAI w (8 + 3 * r)) u (L - 1)) : ∃ k, 1 ≤ k ∧ k ≤ L ∧ cutRw w r np L u k := by
  obtain ⟨p, hp, ⟨h1, h2⟩, h3⟩ := h
  have hm := rB_hM hA hB hC hu (L - 1) p (by omega) hp h1 h2
  have hla : laC (rLa w r) (rAL w r) (rCE w r) p := by
    have e330 : wFI w 330 (6 + 3 * r) = wAI w 138 r := hA.2.2.2.2.2.2.2.2.2.2.1
    unfold laC rAL rLa rCE
    rw [e330]
    rw [hB.1 p (by omega), if_pos hl1] at h3
    simp only [Bool.and_eq_true, Bool.or_eq_true, decide_eq_true_eq] at h3
    rcases h3 with h3 | h3
    · exact Or.inl ⟨by omega, h3⟩
    · exact Or.inr h3
  exact cut_ex (cutOk_of hA hB hC hl1) hL hm hla
