/-! scan: the class finds the longest piece that is met. -/
def ltO (b : Nat) : Option Nat := if 97 ≤ b ∧ b < 105 then some (b - 97) else none
theorem ltO_lt {b l : Nat} (h : ltO b = some l) : l < 8 ∧ b = 97 + l := by
  unfold ltO at h
  by_cases hb : 97 ≤ b ∧ b < 105
  · rw [if_pos hb] at h; cases h; omega
  · rw [if_neg hb] at h; cases h
def mvO (mv : Nat → Option Nat) : Option Nat → Option Nat → Option Nat
  | none, _ => none
  | some _, none => none
  | some s, some l => mv (8 * s + l)
def anO (an : Nat → Option Nat) : Option Nat → Option Nat
  | none => none
  | some s => an s
def pq (N : Nat) (mv : Nat → Option Nat) (B : Nat → Nat) (p : Nat) : Nat → Option Nat
  | 0 => if 0 < N then some 0 else none
  | j + 1 => mvO mv (pq N mv B p j) (ltO (B (p + j)))
def pcs (N : Nat) (mv an : Nat → Option Nat) (B : Nat → Nat) (p : Nat) : Nat → Option Nat × Nat
  | 0 => (none, 0)
  | j + 1 => match pq N mv B p (j + 1) with
    | none => pcs N mv an B p j
    | some s => match an s with
      | none => pcs N mv an B p j
      | some r => (some r, j + 1)
theorem pq_none {N p : Nat} {mv : Nat → Option Nat} {B : Nat → Nat} {j : Nat} (h : pq N mv B p j = none) : ∀ k, pq N mv B p (j + k) = none
  | 0 => h
  | k + 1 => by
    show mvO mv (pq N mv B p (j + k)) _ = none
    rw [pq_none h k]; rfl
theorem pcs_none {N p : Nat} {mv an : Nat → Option Nat} {B : Nat → Nat} {j : Nat} (h : pq N mv B p j = none) : ∀ k, pcs N mv an B p (j + k) = pcs N mv an B p j
  | 0 => rfl
  | k + 1 => by
    show (match pq N mv B p (j + k + 1) with | none => pcs N mv an B p (j + k) | some s => _) = _
    rw [show j + k + 1 = j + (k + 1) by omega, pq_none h (k + 1)]
    exact pcs_none h k
theorem pq_lt {N p : Nat} {mv : Nat → Option Nat} {B : Nat → Nat} (h6 : ∀ t a, t < 8 * N → mv t = some a → a < N) : ∀ {j s : Nat}, pq N mv B p j = some s → s < N
  | 0, s, h => by
    unfold pq at h
    by_cases h0 : 0 < N
    · rw [if_pos h0] at h; cases h; exact h0
    · rw [if_neg h0] at h; cases h
  | j + 1, s, h => by
    unfold pq at h
    cases hj : pq N mv B p j with
    | none => rw [hj] at h; cases h
    | some s' =>
      rw [hj] at h
      have h1 := pq_lt h6 hj
      cases hl : ltO (B (p + j)) with
      | none => rw [hl] at h; cases h
      | some l =>
        rw [hl] at h
        have h2 := (ltO_lt hl).1
        exact h6 _ s (by omega) h
def tpB (w : MWd) (n : Nat) (B : Nat → Nat) : Prop := n ≤ 1000 ∧ wFI w 449 2 = Int32.ofNat n ∧ wFI w 642 128 = Int32.ofNat n ∧ ∀ i, i < n → B i < 256 ∧ wAI w 3 i = Int32.ofNat (B i) ∧ wAI w 129 i = Int32.ofNat (B i)
section SC
variable {d : Nat} {w : MWd} {Q : MRes → MWd → Prop}
theorem s_80 {n i : Nat} {B : Nat → Nat} (G : Gr w) (hn : n ≤ 1000) (h1 : wFI w 449 2 = Int32.ofNat n) (hi : i < n) (hB : B i < 256 ∧ wAI w 3 i = Int32.ofNat (B i)) (h : Q (.inl (some (vI (en (ltO (B i)))))) w) : mR (d + 1) w 80 0 [some (vR (some (7, 0, 2))), some (vI (Int32.ofNat i)), none] [] Q := by
  obtain ⟨b1, b2⟩ := hB
  unfold ltO at h
  by_cases hb : 97 ≤ B i
  · by_cases hb2 : B i < 105
    · rw [if_pos ⟨hb, hb2⟩] at h
      simp (disch := omega) only [e_80_0, e_80_1, e_80_2, e_80_5, e_80_7, e_80_8, e_80_9, e_80_10, e_80_13, e_80_14, e_80_16, e_80_19, e_80_20, e_80_23, e_80_24, e_79_0, e_79_1, e_79_4, e_79_5, e_79_6, e_79_9, e_79_12, e_79_13, e_79_16, e_79_19, e_79_20, e_79_23, e_79_24, e_79_25, e_79_28, e_79_29, i_lit, i_add, i_mul, i_m1, i_lt, i_le, i_eq, i_cl, i_in, i_ltN, i_Nlt, i_leN, i_Nle, i_eN, i_Ne, i_inN, i_l1, i_l2, mj_cpok, mj_nn, reduceCtorEq, lg_self, Nat.not_lt_zero, Nat.zero_le, Nat.reduceEqDiff, Nat.reduceLT, Nat.reduceLeDiff, true_or, or_true, false_or, or_false, not_true_eq_false, not_false_eq_true, true_imp_iff, false_imp_iff, and_self, wrd, u2, and_true, true_and, and_false, false_and, and_self, ite_true, ite_false, reduceIte, mK_v, g_448 G, h1, b2, i_sub]
      (repeat' (first | (with_reducible refine And.intro ?_ ?_) | (with_reducible intro _)))
      all_goals first | omega | exact h
    · rw [if_neg (fun q => hb2 q.2)] at h
      simp (disch := omega) only [e_80_0, e_80_1, e_80_2, e_80_5, e_80_7, e_80_8, e_80_9, e_80_10, e_80_13, e_80_14, e_80_16, e_80_19, e_80_20, e_80_23, e_80_24, e_79_0, e_79_1, e_79_4, e_79_5, e_79_6, e_79_9, e_79_12, e_79_13, e_79_16, e_79_19, e_79_20, e_79_23, e_79_24, e_79_25, e_79_28, e_79_29, i_lit, i_add, i_mul, i_m1, i_lt, i_le, i_eq, i_cl, i_in, i_ltN, i_Nlt, i_leN, i_Nle, i_eN, i_Ne, i_inN, i_l1, i_l2, mj_cpok, mj_nn, reduceCtorEq, lg_self, Nat.not_lt_zero, Nat.zero_le, Nat.reduceEqDiff, Nat.reduceLT, Nat.reduceLeDiff, true_or, or_true, false_or, or_false, not_true_eq_false, not_false_eq_true, true_imp_iff, false_imp_iff, and_self, wrd, u2, and_true, true_and, and_false, false_and, and_self, ite_true, ite_false, reduceIte, mK_v, g_448 G, h1, b2, i_sub]
      (repeat' (first | (with_reducible refine And.intro ?_ ?_) | (with_reducible intro _)))
      all_goals first | omega | exact h
  · rw [if_neg (fun q => hb q.1)] at h
    have hneg : Int32.ofNat (B i) - Int32.ofNat 97 < Int32.ofNat 0 := by
      rw [Int32.lt_iff_toInt_lt, Int32.toInt_sub, i_ti (by omega), i_ti (by decide), i_ti (by decide), Int.bmod_eq_of_le (by omega) (by omega)]
      omega
    have hneg' : ¬ Int32.ofNat 0 ≤ Int32.ofNat (B i) - Int32.ofNat 97 := Int32.not_le.mpr hneg
    simp (disch := omega) only [e_80_0, e_80_1, e_80_2, e_80_5, e_80_7, e_80_8, e_80_9, e_80_10, e_80_13, e_80_14, e_80_16, e_80_19, e_80_20, e_80_23, e_80_24, e_79_0, e_79_1, e_79_4, e_79_5, e_79_6, e_79_9, e_79_12, e_79_13, e_79_16, e_79_19, e_79_20, e_79_23, e_79_24, e_79_25, e_79_28, e_79_29, i_lit, i_add, i_mul, i_m1, i_lt, i_le, i_eq, i_cl, i_in, i_ltN, i_Nlt, i_leN, i_Nle, i_eN, i_Ne, i_inN, i_l1, i_l2, mj_cpok, mj_nn, reduceCtorEq, lg_self, Nat.not_lt_zero, Nat.zero_le, Nat.reduceEqDiff, Nat.reduceLT, Nat.reduceLeDiff, true_or, or_true, false_or, or_false, not_true_eq_false, not_false_eq_true, true_imp_iff, false_imp_iff, and_self, wrd, u2, and_true, true_and, and_false, false_and, and_self, ite_true, ite_false, reduceIte, mK_v, g_448 G, h1, b2, hneg, hneg']
    (repeat' (first | (with_reducible refine And.intro ?_ ?_) | (with_reducible intro _)))
    all_goals first | omega | exact h
/-- a state, a letter that may be none: where it leads -/
theorem s_17 {c m N : Nat} {mv an : Nat → Option Nat} {x lo : Option Nat} (hgs : grS w c) (hm : m < 4) (hA : ClsA w c m N mv an) (hx : ∀ s, x = some s → s < N) (hl : ∀ l, lo = some l → l < 8)
    (h : Q (.inl (some (vI (en (mvO mv x lo))))) w) : mR (d + 1) w 17 0 [some (vR (some (1, 0, c + 2 + 8 * m))), some (vI (en x)), some (vI (en lo))] [] Q := by
  have hN := hA.1
  have h0 : NN < Int32.ofNat 0 := (i_Nlt (by omega)).mpr trivial
  cases x with
  | none =>
    show mR (d + 1) w 17 0 [some (vR (some (1, 0, c + 2 + 8 * m))), some (vI NN), some (vI (en lo))] [] Q
    simp (disch := omega) only [e_17_0, e_17_1, e_17_2, e_17_5, e_17_8, e_17_9, e_17_12, e_17_13, e_17_15, e_17_18, e_17_19, e_17_22, e_17_23, e_17_25, e_17_26, e_17_27, e_17_28, e_17_29, e_17_32, e_17_33, e_16_0, e_16_1, e_16_4, e_16_5, e_16_6, e_16_9, e_16_12, e_16_13, e_16_15, e_16_18, e_16_19, e_16_22, e_16_23, i_lit, i_add, i_mul, i_m1, i_lt, i_le, i_eq, i_cl, i_in, i_ltN, i_Nlt, i_leN, i_Nle, i_eN, i_Ne, i_inN, i_l1, i_l2, mj_cpok, mj_nn, reduceCtorEq, lg_self, Nat.not_lt_zero, Nat.zero_le, Nat.reduceEqDiff, Nat.reduceLT, Nat.reduceLeDiff, true_or, or_true, false_or, or_false, not_true_eq_false, not_false_eq_true, true_imp_iff, false_imp_iff, and_self, wrd, u2, and_true, true_and, and_false, false_and, and_self, ite_true, ite_false, reduceIte, mK_v, hA.2.1]
    (repeat' (first | (with_reducible refine And.intro ?_ ?_) | (with_reducible intro _)))
    all_goals first | omega | exact h
  | some s =>
    have hs := hx s rfl
    cases lo with
    | none =>
      show mR (d + 1) w 17 0 [some (vR (some (1, 0, c + 2 + 8 * m))), some (vI (Int32.ofNat s)), some (vI NN)] [] Q
      simp (disch := omega) only [e_17_0, e_17_1, e_17_2, e_17_5, e_17_8, e_17_9, e_17_12, e_17_13, e_17_15, e_17_18, e_17_19, e_17_22, e_17_23, e_17_25, e_17_26, e_17_27, e_17_28, e_17_29, e_17_32, e_17_33, e_16_0, e_16_1, e_16_4, e_16_5, e_16_6, e_16_9, e_16_12, e_16_13, e_16_15, e_16_18, e_16_19, e_16_22, e_16_23, i_lit, i_add, i_mul, i_m1, i_lt, i_le, i_eq, i_cl, i_in, i_ltN, i_Nlt, i_leN, i_Nle, i_eN, i_Ne, i_inN, i_l1, i_l2, mj_cpok, mj_nn, reduceCtorEq, lg_self, Nat.not_lt_zero, Nat.zero_le, Nat.reduceEqDiff, Nat.reduceLT, Nat.reduceLeDiff, true_or, or_true, false_or, or_false, not_true_eq_false, not_false_eq_true, true_imp_iff, false_imp_iff, and_self, wrd, u2, and_true, true_and, and_false, false_and, and_self, ite_true, ite_false, reduceIte, mK_v, hA.2.1]
      (repeat' (first | (with_reducible refine And.intro ?_ ?_) | (with_reducible intro _)))
      all_goals first | omega | exact h
    | some l =>
      have hl' := hl l rfl
      have e1 := hA.2.2.2 s l hs hl'
      rw [Nat.mul_comm 8 s] at e1
      have h' : Q (.inl (some (vI (en (mv (s * 8 + l)))))) w := by rw [Nat.mul_comm s 8]; exact h
      show mR (d + 1) w 17 0 [some (vR (some (1, 0, c + 2 + 8 * m))), some (vI (Int32.ofNat s)), some (vI (Int32.ofNat l))] [] Q
      simp (disch := omega) only [e_17_0, e_17_1, e_17_2, e_17_5, e_17_8, e_17_9, e_17_12, e_17_13, e_17_15, e_17_18, e_17_19, e_17_22, e_17_23, e_17_25, e_17_26, e_17_27, e_17_28, e_17_29, e_17_32, e_17_33, e_16_0, e_16_1, e_16_4, e_16_5, e_16_6, e_16_9, e_16_12, e_16_13, e_16_15, e_16_18, e_16_19, e_16_22, e_16_23, i_lit, i_add, i_mul, i_m1, i_lt, i_le, i_eq, i_cl, i_in, i_ltN, i_Nlt, i_leN, i_Nle, i_eN, i_Ne, i_inN, i_l1, i_l2, mj_cpok, mj_nn, reduceCtorEq, lg_self, Nat.not_lt_zero, Nat.zero_le, Nat.reduceEqDiff, Nat.reduceLT, Nat.reduceLeDiff, true_or, or_true, false_or, or_false, not_true_eq_false, not_false_eq_true, true_imp_iff, false_imp_iff, and_self, wrd, u2, and_true, true_and, and_false, false_and, and_self, ite_true, ite_false, reduceIte, mK_v, hA.2.1, gs_64 hgs hm, e1]
      (repeat' (first | (with_reducible refine And.intro ?_ ?_) | (with_reducible intro _)))
      all_goals first | omega | exact h'
theorem s_18 {c m N : Nat} {mv an : Nat → Option Nat} {x : Option Nat} (hgs : grS w c) (hm : m < 4) (hA : ClsA w c m N mv an) (hx : ∀ s, x = some s → s < N)
    (h : Q (.inl (some (vI (en (anO an x))))) w) : mR (d + 1) w 18 0 [some (vR (some (1, 0, c + 2 + 8 * m))), some (vI (en x))] [] Q := by
  have hN := hA.1
  have h0 : NN < Int32.ofNat 0 := (i_Nlt (by omega)).mpr trivial
  cases x with
  | none =>
    show mR (d + 1) w 18 0 [some (vR (some (1, 0, c + 2 + 8 * m))), some (vI NN)] [] Q
    simp (disch := omega) only [e_18_0, e_18_1, e_18_2, e_18_5, e_18_8, e_18_9, e_18_12, e_18_13, e_18_14, e_18_17, e_18_18, e_16_0, e_16_1, e_16_4, e_16_5, e_16_6, e_16_9, e_16_12, e_16_13, e_16_15, e_16_18, e_16_19, e_16_22, e_16_23, i_lit, i_add, i_mul, i_m1, i_lt, i_le, i_eq, i_cl, i_in, i_ltN, i_Nlt, i_leN, i_Nle, i_eN, i_Ne, i_inN, i_l1, i_l2, mj_cpok, mj_nn, reduceCtorEq, lg_self, Nat.not_lt_zero, Nat.zero_le, Nat.reduceEqDiff, Nat.reduceLT, Nat.reduceLeDiff, true_or, or_true, false_or, or_false, not_true_eq_false, not_false_eq_true, true_imp_iff, false_imp_iff, and_self, wrd, u2, and_true, true_and, and_false, false_and, and_self, ite_true, ite_false, reduceIte, mK_v, hA.2.1]
    (repeat' (first | (with_reducible refine And.intro ?_ ?_) | (with_reducible intro _)))
    all_goals first | omega | exact h
  | some s =>
    have hs := hx s rfl
    have e1 := hA.2.2.1 s hs
    show mR (d + 1) w 18 0 [some (vR (some (1, 0, c + 2 + 8 * m))), some (vI (Int32.ofNat s))] [] Q
    simp (disch := omega) only [e_18_0, e_18_1, e_18_2, e_18_5, e_18_8, e_18_9, e_18_12, e_18_13, e_18_14, e_18_17, e_18_18, e_16_0, e_16_1, e_16_4, e_16_5, e_16_6, e_16_9, e_16_12, e_16_13, e_16_15, e_16_18, e_16_19, e_16_22, e_16_23, i_lit, i_add, i_mul, i_m1, i_lt, i_le, i_eq, i_cl, i_in, i_ltN, i_Nlt, i_leN, i_Nle, i_eN, i_Ne, i_inN, i_l1, i_l2, mj_cpok, mj_nn, reduceCtorEq, lg_self, Nat.not_lt_zero, Nat.zero_le, Nat.reduceEqDiff, Nat.reduceLT, Nat.reduceLeDiff, true_or, or_true, false_or, or_false, not_true_eq_false, not_false_eq_true, true_imp_iff, false_imp_iff, and_self, wrd, u2, and_true, true_and, and_false, false_and, and_self, ite_true, ite_false, reduceIte, mK_v, hA.2.1, gs_65 hgs hm, e1]
    (repeat' (first | (with_reducible refine And.intro ?_ ?_) | (with_reducible intro _)))
    all_goals first | omega | exact h
end SC
