/-! build: the reference's answers, and all its sets. -/
def pd : Nat → Int32
  | 0 => NN
  | j + 1 => Int32.ofNat j
theorem pd_dec (j : Nat) : Int32.ofNat j + NN = pd j := by
  cases j with
  | zero => rfl
  | succ j =>
    show Int32.ofNat (j + 1) + NN = Int32.ofNat j
    rw [← i_add]
    exact (Int32.add_assoc _ _ _).trans (Int32.add_zero _)
theorem pd_sub (j : Nat) : Int32.ofNat j - Int32.ofNat 1 = pd j := by
  cases j with
  | zero => rfl
  | succ j => rw [i_sub (by omega)]; rfl
def anC (w : MWd) (nr m : Nat) (x : Nat → Int32) (r : Nat) : Prop := r < nr ∧ wFI w 322 (6 + 3 * r) = Int32.ofNat m ∧ ¬ (x r &&& wFI w 329 (6 + 3 * r)) = Int32.ofNat 0
theorem ansF_none {w : MWd} {nr m : Nat} {x : Nat → Int32} : ∀ {r : Nat}, (∀ q, q < r → ¬ anC w nr m x q) → ansF w nr m x r = none
  | 0, _ => rfl
  | r + 1, h => by
    unfold ansF
    rw [ansF_none fun q hq => h q (by omega)]
    exact if_neg (h r (by omega))
theorem ansF_some {w : MWd} {nr m q0 : Nat} {x : Nat → Int32} (h0 : anC w nr m x q0) (h : ∀ q, q < q0 → ¬ anC w nr m x q) : ∀ {r : Nat}, q0 < r → ansF w nr m x r = some q0
  | 0, hr => by omega
  | r + 1, hr => by
    unfold ansF
    by_cases he : q0 = r
    · subst he
      rw [ansF_none h]
      exact if_pos h0
    · rw [ansF_some h0 h (show q0 < r by omega)]
theorem nxF_mode {w : MWd} {nr m s l r : Nat} {x : Nat → Int32} (h : ¬ (r < nr ∧ wFI w 322 (6 + 3 * r) = Int32.ofNat m)) : nxF w nr m s x l r = Int32.ofNat 0 := by
  unfold nxF bhF
  rw [if_neg h]
  by_cases h2 : r < nr ∧ l < 8
  · rw [if_pos h2]; exact bt_ext fun p hp => by rw [bt_and, bt_0, Bool.false_and]
  · rw [if_neg h2]
/-- rules of other modes have no places in a set -/
theorem sSt_mode {w : MWd} {nr m r : Nat} (h : ¬ (r < nr ∧ wFI w 322 (6 + 3 * r) = Int32.ofNat m)) : ∀ t k, k < (sSt (nxF w nr m) t).1 → (sSt (nxF w nr m) t).2 k r = Int32.ofNat 0
  | 0, k, _ => rfl
  | t + 1, k, hk => by
    have ih := sSt_mode h t
    have hst : sSt (nxF w nr m) (t + 1) = sStep (nxF w nr m) (sSt (nxF w nr m) t) t := rfl
    rw [hst] at hk ⊢
    rcases sStep_cases (f := nxF w nr m) (sSt (nxF w nr m) t) (sSt_pos t) t with ⟨-, -, e⟩ | ⟨k', -, -, -, -, e, -⟩ | ⟨-, -, e, -⟩
    · rw [e] at hk ⊢; exact ih k hk
    · rw [e] at hk ⊢; exact ih k hk
    · rw [e] at hk ⊢
      show (if k = _ then _ else _ : Nat → Int32) r = _
      by_cases hkn : k = (sSt (nxF w nr m) t).1
      · rw [if_pos hkn]; exact nxF_mode h
      · rw [if_neg hkn]
        have hk' : k < (sSt (nxF w nr m) t).1 + 1 := hk
        exact ih k (by omega)
def R140 (a : Nat) : Prop := 155 ≤ a ∧ a ≤ 157
abbrev rfFr (R : Nat → Prop) (w w' : MWd) : Prop := Fr (fun k a => k = 669 ∧ a = 128) R 0 0 w w'
def rsI (w : MWd) (nr m t : Nat) (W : MWd) : Prop := rfFr R140 w W ∧ (sSt (nxF w nr m) t).1 ≤ 100 ∧ wFI W 669 128 = Int32.ofNat (sSt (nxF w nr m) t).1 ∧
  (∀ k r, 1 ≤ k → k < (sSt (nxF w nr m) t).1 → r < 12 → wAI W 155 (12 * k + r) = (sSt (nxF w nr m) t).2 k r) ∧ (∀ q, q < t → wAI W 157 q = en (sMv (nxF w nr m) q))
def rsA (w : MWd) (nr m s t : Nat) (W : MWd) : Prop := ∀ k, k < s → wAI W 156 k = en (ansF w nr m ((sSt (nxF w nr m) t).2 k) 12)
theorem nxF_row {w : MWd} {nr m s l : Nat} {x y : Nat → Int32} (h : ¬ s = 0 → ∀ r, r < 12 → x r = y r) (hnr : nr ≤ 12) : nxF w nr m s x l = nxF w nr m s y l := by
  funext r
  unfold nxF bhF
  by_cases hr : r < nr
  · by_cases hs : s = 0
    · rw [if_pos hs, if_pos hs]
    · rw [h hs r (by omega)]
  · rw [if_neg (fun q => hr q.1), if_neg (fun q => hr q.1)]
section RS
variable {d : Nat} {w : MWd} {Q : MRes → MWd → Prop}
theorem s_140a {nr m s n : Nat} {x : Nat → Int32} (G : Gr w) (hnr : nr ≤ 12) (hR : ∀ r, r < nr → RuleOk w r) (h1 : wFI w 644 128 = Int32.ofNat nr) (hs : s < 100) (hx : ¬ s = 0 → ∀ r, r < 12 → wAI w 155 (12 * s + r) = x r) (hx0 : s = 0 → ∀ r, x r = Int32.ofNat 0) (hmd : ∀ r, ¬ (r < nr ∧ wFI w 322 (6 + 3 * r) = Int32.ofNat m) → x r = Int32.ofNat 0)
    (K : ∀ w', Fr (fun _ _ => False) (fun a => a = 156) 0 0 w w' → wAI w' 156 s = en (ansF w nr m x 12) → (∀ j, j ≠ s → wAI w' 156 j = wAI w 156 j) → mR (d + 4) w' 140 70 [some (vR (some (10, 0, 128))), some (vI (Int32.ofNat m)), some (vI (Int32.ofNat s)), some (vI (pd 0)), none] [] Q ∧ mR (d + 4) w' 140 70 [some (vR (some (10, 0, 128))), some (vI (Int32.ofNat m)), some (vI (Int32.ofNat s)), some (vI (pd nr)), none] [] Q) :
    ∀ (l4 : Option MV), l4 = none → mR (d + 4) (sAI w 156 s NN) 140 29 [some (vR (some (10, 0, 128))), some (vI (Int32.ofNat m)), some (vI (Int32.ofNat s)), some (vI (pd nr)), l4] [] Q := by
  intro l4 hl4
  subst hl4
  have zand : ∀ y : Int32, Int32.ofNat 0 &&& y = Int32.ofNat 0 := fun y => bt_ext fun p hp => by rw [bt_and, bt_0, Bool.false_and]
  by_cases h0 : s = 0
  · have hn : ansF w nr m x 12 = none := ansF_none fun q _ hc => hc.2.2 (by rw [hx0 h0 q, zand])
    have k := (K (sAI w 156 s NN) (Fr_sAI Fr_refl (Or.inl rfl)) (by simp only [mj_cpok, mj_nn, reduceCtorEq, lg_self, Nat.not_lt_zero, Nat.zero_le, Nat.reduceEqDiff, Nat.reduceLT, Nat.reduceLeDiff, true_or, or_true, false_or, or_false, not_true_eq_false, not_false_eq_true, true_imp_iff, false_imp_iff, and_self, wrd, u2, and_true, true_and, and_false, false_and, and_self, ite_true, ite_false, reduceIte]; rw [hn]; rfl) (fun j hj => by simp only [mj_cpok, mj_nn, reduceCtorEq, lg_self, Nat.not_lt_zero, Nat.zero_le, Nat.reduceEqDiff, Nat.reduceLT, Nat.reduceLeDiff, true_or, or_true, false_or, or_false, not_true_eq_false, not_false_eq_true, true_imp_iff, false_imp_iff, and_self, wrd, u2, and_true, true_and, and_false, false_and, and_self, ite_true, ite_false, reduceIte, hj])).2
    subst h0
    rw [e_140_29]
    cases nr with
    | zero =>
      have k' : mR (d + 4) (sAI w 156 0 NN) 140 70 [some (vR (some (10, 0, 128))), some (vI (Int32.ofNat m)), some (vI (Int32.ofNat 0)), some (vI NN), none] [] Q := k
      show mR (d + 4) (sAI w 156 0 NN) 140 30 [some (vR (some (10, 0, 128))), some (vI (Int32.ofNat m)), some (vI (Int32.ofNat 0)), some (vI NN), none] [vI NN] Q
      rw [e_140_30]
      exact ⟨fun _ => k', fun q => absurd q (by decide)⟩
    | succ j =>
      have k' : mR (d + 4) (sAI w 156 0 NN) 140 70 [some (vR (some (10, 0, 128))), some (vI (Int32.ofNat m)), some (vI (Int32.ofNat 0)), some (vI (Int32.ofNat j)), none] [] Q := k
      show mR (d + 4) (sAI w 156 0 NN) 140 30 [some (vR (some (10, 0, 128))), some (vI (Int32.ofNat m)), some (vI (Int32.ofNat 0)), some (vI (Int32.ofNat j)), none] [vI (Int32.ofNat j)] Q
      rw [e_140_30, e_140_33, e_140_34]
      refine ⟨fun q => absurd q ?_, fun _ => ⟨fun _ => k', fun q => absurd q (by decide)⟩⟩
      show ¬ Int32.ofNat j < Int32.ofNat 0
      rw [i_lt (by omega) (by omega)]; omega
  · have loop : ∀ (j : Nat) (w' : MWd), j ≤ nr → Fr (fun _ _ => False) (fun a => a = 156) 0 0 w w' → (∀ q, q ≠ s → wAI w' 156 q = wAI w 156 q) →
        (wAI w' 156 s = NN ∧ (∀ q, j ≤ q → ¬ anC w nr m x q) ∨ ∃ q0, wAI w' 156 s = Int32.ofNat q0 ∧ j ≤ q0 ∧ anC w nr m x q0 ∧ ∀ q, j ≤ q → q < q0 → ¬ anC w nr m x q) →
        mR (d + 4) w' 140 29 [some (vR (some (10, 0, 128))), some (vI (Int32.ofNat m)), some (vI (Int32.ofNat s)), some (vI (pd j)), none] [] Q := by
      intro j
      induction j with
      | zero =>
        intro w' hj hF g1 g2
        have k := (K w' hF (by
          rcases g2 with ⟨e, g2⟩ | ⟨q0, e, -, g2, g3⟩
          · rw [e, ansF_none fun q _ => g2 q (Nat.zero_le q)]; rfl
          · rw [e, ansF_some g2 (fun q hq => g3 q (Nat.zero_le q) hq) (show q0 < 12 by have := g2.1; omega)]; rfl) g1).1
        have k' : mR (d + 4) w' 140 70 [some (vR (some (10, 0, 128))), some (vI (Int32.ofNat m)), some (vI (Int32.ofNat s)), some (vI NN), none] [] Q := k
        rw [e_140_29]
        show mR (d + 4) w' 140 30 [some (vR (some (10, 0, 128))), some (vI (Int32.ofNat m)), some (vI (Int32.ofNat s)), some (vI NN), none] [vI NN] Q
        rw [e_140_30]
        exact ⟨fun _ => k', fun q => absurd q (by decide)⟩
      | succ j ih =>
        intro w' hj hF g1 g2
        have G' := Fr_Gr hF G
        obtain ⟨np, tp, hA, hB, -⟩ := RuleOk_Fr hF (by omega) (hR j (by omega)) (fun _ _ _ _ q => q) (fun a h q => by omega)
        have a155 : wAI w' 155 (12 * s + j) = x j := by rw [Fr_ai hF (by decide) (by decide)]; exact hx h0 j (by omega)
        have a329 : wFI w' 329 (6 + 3 * j) = wFI w 329 (6 + 3 * j) := Fr_fi hF (by omega) (fun q => q)
        rw [e_140_29]
        show mR (d + 4) w' 140 30 [some (vR (some (10, 0, 128))), some (vI (Int32.ofNat m)), some (vI (Int32.ofNat s)), some (vI (Int32.ofNat j)), none] [vI (Int32.ofNat j)] Q
        simp (disch := omega) only [e_140_30, e_140_33, e_140_34, e_140_37, e_140_38, e_140_41, e_140_43, e_140_44, e_140_45, e_140_46, e_140_47, e_140_48, e_140_49, e_140_50, i_lit, i_add, i_mul, i_m1, i_lt, i_le, i_eq, i_cl, i_in, i_ltN, i_Nlt, i_leN, i_Nle, i_eN, i_Ne, i_inN, i_l1, i_l2, mj_cpok, mj_nn, reduceCtorEq, lg_self, Nat.not_lt_zero, Nat.zero_le, Nat.reduceEqDiff, Nat.reduceLT, Nat.reduceLeDiff, true_or, or_true, false_or, or_false, not_true_eq_false, not_false_eq_true, true_imp_iff, false_imp_iff, and_self, wrd, u2, and_true, true_and, and_false, false_and, and_self, ite_true, ite_false, reduceIte, g_670 G', a155]
        (repeat' (first | (with_reducible refine And.intro ?_ ?_) | (with_reducible intro _)))
        all_goals try omega
        refine s_129 G' (by omega) hA hB ?_
        simp (disch := omega) only [mK_v, e_140_53, e_140_54, e_140_57, e_140_58, e_140_61, e_140_62, e_140_63, e_140_64, e_140_67, i_lit, i_add, i_mul, i_m1, i_lt, i_le, i_eq, i_cl, i_in, i_ltN, i_Nlt, i_leN, i_Nle, i_eN, i_Ne, i_inN, i_l1, i_l2, mj_cpok, mj_nn, reduceCtorEq, lg_self, Nat.not_lt_zero, Nat.zero_le, Nat.reduceEqDiff, Nat.reduceLT, Nat.reduceLeDiff, true_or, or_true, false_or, or_false, not_true_eq_false, not_false_eq_true, true_imp_iff, false_imp_iff, and_self, wrd, u2, and_true, true_and, and_false, false_and, and_self, ite_true, ite_false, reduceIte, g_671 G', a329, pd_dec]
        refine ⟨fun hz => ?_, fun hz => ⟨by omega, ?_⟩⟩
        · have nc : ¬ anC w nr m x j := fun q => q.2.2 hz
          refine ih w' (by omega) hF g1 ?_
          rcases g2 with ⟨e, g2⟩ | ⟨q0, e, g4, g2, g3⟩
          · refine Or.inl ⟨e, fun q hq => ?_⟩
            by_cases hqj : q = j
            · subst hqj; exact nc
            · exact g2 q (by omega)
          · refine Or.inr ⟨q0, e, by omega, g2, fun q hq hq2 => ?_⟩
            by_cases hqj : q = j
            · subst hqj; exact nc
            · exact g3 q (by omega) hq2
        · have yc : anC w nr m x j := by
            by_cases hmm : j < nr ∧ wFI w 322 (6 + 3 * j) = Int32.ofNat m
            · exact ⟨hmm.1, hmm.2, hz⟩
            · exact absurd (by rw [hmd j hmm, zand]) hz
          refine ih _ (by omega) (Fr_sAI hF (Or.inl rfl)) (fun q hq => by simp only [mj_cpok, mj_nn, reduceCtorEq, lg_self, Nat.not_lt_zero, Nat.zero_le, Nat.reduceEqDiff, Nat.reduceLT, Nat.reduceLeDiff, true_or, or_true, false_or, or_false, not_true_eq_false, not_false_eq_true, true_imp_iff, false_imp_iff, and_self, wrd, u2, and_true, true_and, and_false, false_and, and_self, ite_true, ite_false, reduceIte, hq]; exact g1 q hq) (Or.inr ⟨j, by simp only [mj_cpok, mj_nn, reduceCtorEq, lg_self, Nat.not_lt_zero, Nat.zero_le, Nat.reduceEqDiff, Nat.reduceLT, Nat.reduceLeDiff, true_or, or_true, false_or, or_false, not_true_eq_false, not_false_eq_true, true_imp_iff, false_imp_iff, and_self, wrd, u2, and_true, true_and, and_false, false_and, and_self, ite_true, ite_false, reduceIte], Nat.le_refl j, yc, fun q h1 h2 => by omega⟩)
    exact loop nr (sAI w 156 s NN) (Nat.le_refl nr) (Fr_sAI Fr_refl (Or.inl rfl)) (fun q hq => by simp only [mj_cpok, mj_nn, reduceCtorEq, lg_self, Nat.not_lt_zero, Nat.zero_le, Nat.reduceEqDiff, Nat.reduceLT, Nat.reduceLeDiff, true_or, or_true, false_or, or_false, not_true_eq_false, not_false_eq_true, true_imp_iff, false_imp_iff, and_self, wrd, u2, and_true, true_and, and_false, false_and, and_self, ite_true, ite_false, reduceIte, hq]) (Or.inl ⟨by simp only [mj_cpok, mj_nn, reduceCtorEq, lg_self, Nat.not_lt_zero, Nat.zero_le, Nat.reduceEqDiff, Nat.reduceLT, Nat.reduceLeDiff, true_or, or_true, false_or, or_false, not_true_eq_false, not_false_eq_true, true_imp_iff, false_imp_iff, and_self, wrd, u2, and_true, true_and, and_false, false_and, and_self, ite_true, ite_false, reduceIte], fun q hq hc => by have := hc.1; omega⟩)
end RS
