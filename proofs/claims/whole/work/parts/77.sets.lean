/-! build: the reference's answers, and all its sets. -/
def pd : Nat → Int32
  | 0 => NN
  | j + 1 => Int32.ofNat j
theorem pd_dec (j : Nat) : Int32.ofNat j + NN = pd j := by
  cases j with
  | zero => rfl
  | succ j =>
    show Int32.ofNat (j + 1) + NN = Int32.ofNat j
    rw [← i_add]
    exact (Int32.add_assoc _ _ _).trans (Int32.add_zero _)
theorem pd_sub (j : Nat) : Int32.ofNat j - Int32.ofNat 1 = pd j := by
  cases j with
  | zero => rfl
  | succ j => rw [i_sub (by omega)]; rfl
def anC (w : MWd) (nr m : Nat) (x : Nat → Int32) (r : Nat) : Prop := r < nr ∧ wFI w 322 (6 + 3 * r) = Int32.ofNat m ∧ ¬ (x r &&& wFI w 329 (6 + 3 * r)) = Int32.ofNat 0
theorem ansF_none {w : MWd} {nr m : Nat} {x : Nat → Int32} : ∀ {r : Nat}, (∀ q, q < r → ¬ anC w nr m x q) → ansF w nr m x r = none
  | 0, _ => rfl
  | r + 1, h => by
    unfold ansF
    rw [ansF_none fun q hq => h q (by omega)]
    exact if_neg (h r (by omega))
theorem ansF_some {w : MWd} {nr m q0 : Nat} {x : Nat → Int32} (h0 : anC w nr m x q0) (h : ∀ q, q < q0 → ¬ anC w nr m x q) : ∀ {r : Nat}, q0 < r → ansF w nr m x r = some q0
  | 0, hr => by omega
  | r + 1, hr => by
    unfold ansF
    by_cases he : q0 = r
    · subst he
      rw [ansF_none h]
      exact if_pos h0
    · rw [ansF_some h0 h (show q0 < r by omega)]
theorem nxF_mode {w : MWd} {nr m s l r : Nat} {x : Nat → Int32} (h : ¬ (r < nr ∧ wFI w 322 (6 + 3 * r) = Int32.ofNat m)) : nxF w nr m s x l r = Int32.ofNat 0 := by
  unfold nxF bhF
  rw [if_neg h]
  by_cases h2 : r < nr ∧ l < 8
  · rw [if_pos h2]; exact bt_ext fun p hp => by rw [bt_and, bt_0, Bool.false_and]
  · rw [if_neg h2]
/-- rules of other modes have no places in a set -/
theorem sSt_mode {w : MWd} {nr m r : Nat} (h : ¬ (r < nr ∧ wFI w 322 (6 + 3 * r) = Int32.ofNat m)) : ∀ t k, k < (sSt (nxF w nr m) t).1 → (sSt (nxF w nr m) t).2 k r = Int32.ofNat 0
  | 0, k, _ => rfl
  | t + 1, k, hk => by
    have ih := sSt_mode h t
    have hst : sSt (nxF w nr m) (t + 1) = sStep (nxF w nr m) (sSt (nxF w nr m) t) t := rfl
    rw [hst] at hk ⊢
    rcases sStep_cases (f := nxF w nr m) (sSt (nxF w nr m) t) (sSt_pos t) t with ⟨-, -, e⟩ | ⟨k', -, -, -, -, e, -⟩ | ⟨-, -, e, -⟩
    · rw [e] at hk ⊢; exact ih k hk
    · rw [e] at hk ⊢; exact ih k hk
    · rw [e] at hk ⊢
      show (if k = _ then _ else _ : Nat → Int32) r = _
      by_cases hkn : k = (sSt (nxF w nr m) t).1
      · rw [if_pos hkn]; exact nxF_mode h
      · rw [if_neg hkn]
        have hk' : k < (sSt (nxF w nr m) t).1 + 1 := hk
        exact ih k (by omega)
def R140 (a : Nat) : Prop := 155 ≤ a ∧ a ≤ 157
abbrev rfFr (R : Nat → Prop) (w w' : MWd) : Prop := Fr (fun k a => k = 669 ∧ a = 128) R 0 0 w w'
def rsI (w : MWd) (nr m t : Nat) (W : MWd) : Prop := rfFr R140 w W ∧ (sSt (nxF w nr m) t).1 ≤ 100 ∧ wFI W 669 128 = Int32.ofNat (sSt (nxF w nr m) t).1 ∧
  (∀ k r, 1 ≤ k → k < (sSt (nxF w nr m) t).1 → r < 12 → wAI W 155 (12 * k + r) = (sSt (nxF w nr m) t).2 k r) ∧ (∀ q, q < t → wAI W 157 q = en (sMv (nxF w nr m) q))
def rsA (w : MWd) (nr m s t : Nat) (W : MWd) : Prop := ∀ k, k < s → wAI W 156 k = en (ansF w nr m ((sSt (nxF w nr m) t).2 k) 12)
theorem nxF_row {w : MWd} {nr m s l : Nat} {x y : Nat → Int32} (h : ¬ s = 0 → ∀ r, r < 12 → x r = y r) (hnr : nr ≤ 12) : nxF w nr m s x l = nxF w nr m s y l := by
  funext r
  unfold nxF bhF
  by_cases hr : r < nr
  · by_cases hs : s = 0
    · rw [if_pos hs, if_pos hs]
    · rw [h hs r (by omega)]
  · rw [if_neg (fun q => hr q.1), if_neg (fun q => hr q.1)]
section RS
variable {d : Nat} {w : MWd} {Q : MRes → MWd → Prop}
theorem s_140a {nr m s n : Nat} (l4 : Option MV) {x : Nat → Int32} (G : Gr w) (hnr : nr ≤ 12) (hR : ∀ r, r < nr → RuleOk w r) (h1 : wFI w 644 128 = Int32.ofNat nr) (hs : s < 100) (hx : ¬ s = 0 → ∀ r, r < 12 → wAI w 155 (12 * s + r) = x r) (hx0 : s = 0 → ∀ r, x r = Int32.ofNat 0) (hmd : ∀ r, ¬ (r < nr ∧ wFI w 322 (6 + 3 * r) = Int32.ofNat m) → x r = Int32.ofNat 0)
    (K : ∀ w', Fr (fun _ _ => False) (fun a => a = 156) 0 0 w w' → wAI w' 156 s = en (ansF w nr m x 12) → (∀ j, j ≠ s → wAI w' 156 j = wAI w 156 j) → mR (d + 4) w' 140 70 [some (vR (some (10, 0, 128))), some (vI (Int32.ofNat m)), some (vI (Int32.ofNat s)), some (vI (pd 0)), l4] [] Q ∧ mR (d + 4) w' 140 70 [some (vR (some (10, 0, 128))), some (vI (Int32.ofNat m)), some (vI (Int32.ofNat s)), some (vI (pd nr)), l4] [] Q) :
    mR (d + 4) (sAI w 156 s NN) 140 29 [some (vR (some (10, 0, 128))), some (vI (Int32.ofNat m)), some (vI (Int32.ofNat s)), some (vI (pd nr)), l4] [] Q := by
  have zand : ∀ y : Int32, Int32.ofNat 0 &&& y = Int32.ofNat 0 := fun y => bt_ext fun p hp => by rw [bt_and, bt_0, Bool.false_and]
  by_cases h0 : s = 0
  · have hn : ansF w nr m x 12 = none := ansF_none fun q _ hc => hc.2.2 (by rw [hx0 h0 q, zand])
    have k := (K (sAI w 156 s NN) (Fr_sAI Fr_refl (Or.inl rfl)) (by simp only [mj_cpok, mj_nn, reduceCtorEq, lg_self, Nat.not_lt_zero, Nat.zero_le, Nat.reduceEqDiff, Nat.reduceLT, Nat.reduceLeDiff, true_or, or_true, false_or, or_false, not_true_eq_false, not_false_eq_true, true_imp_iff, false_imp_iff, and_self, wrd, u2, and_true, true_and, and_false, false_and, and_self, ite_true, ite_false, reduceIte]; rw [hn]; rfl) (fun j hj => by simp only [mj_cpok, mj_nn, reduceCtorEq, lg_self, Nat.not_lt_zero, Nat.zero_le, Nat.reduceEqDiff, Nat.reduceLT, Nat.reduceLeDiff, true_or, or_true, false_or, or_false, not_true_eq_false, not_false_eq_true, true_imp_iff, false_imp_iff, and_self, wrd, u2, and_true, true_and, and_false, false_and, and_self, ite_true, ite_false, reduceIte, hj])).2
    subst h0
    rw [e_140_29]
    cases nr with
    | zero =>
      have k' : mR (d + 4) (sAI w 156 0 NN) 140 70 [some (vR (some (10, 0, 128))), some (vI (Int32.ofNat m)), some (vI (Int32.ofNat 0)), some (vI NN), l4] [] Q := k
      show mR (d + 4) (sAI w 156 0 NN) 140 30 [some (vR (some (10, 0, 128))), some (vI (Int32.ofNat m)), some (vI (Int32.ofNat 0)), some (vI NN), l4] [vI NN] Q
      rw [e_140_30]
      exact ⟨fun _ => k', fun q => absurd q (by decide)⟩
    | succ j =>
      have k' : mR (d + 4) (sAI w 156 0 NN) 140 70 [some (vR (some (10, 0, 128))), some (vI (Int32.ofNat m)), some (vI (Int32.ofNat 0)), some (vI (Int32.ofNat j)), l4] [] Q := k
      show mR (d + 4) (sAI w 156 0 NN) 140 30 [some (vR (some (10, 0, 128))), some (vI (Int32.ofNat m)), some (vI (Int32.ofNat 0)), some (vI (Int32.ofNat j)), l4] [vI (Int32.ofNat j)] Q
      rw [e_140_30, e_140_33, e_140_34]
      refine ⟨fun q => absurd q ?_, fun _ => ⟨fun _ => k', fun q => absurd q (by decide)⟩⟩
      show ¬ Int32.ofNat j < Int32.ofNat 0
      rw [i_lt (by omega) (by omega)]; omega
  · have loop : ∀ (j : Nat) (w' : MWd), j ≤ nr → Fr (fun _ _ => False) (fun a => a = 156) 0 0 w w' → (∀ q, q ≠ s → wAI w' 156 q = wAI w 156 q) →
        (wAI w' 156 s = NN ∧ (∀ q, j ≤ q → ¬ anC w nr m x q) ∨ ∃ q0, wAI w' 156 s = Int32.ofNat q0 ∧ j ≤ q0 ∧ anC w nr m x q0 ∧ ∀ q, j ≤ q → q < q0 → ¬ anC w nr m x q) →
        mR (d + 4) w' 140 29 [some (vR (some (10, 0, 128))), some (vI (Int32.ofNat m)), some (vI (Int32.ofNat s)), some (vI (pd j)), l4] [] Q := by
      intro j
      induction j with
      | zero =>
        intro w' hj hF g1 g2
        have k := (K w' hF (by
          rcases g2 with ⟨e, g2⟩ | ⟨q0, e, -, g2, g3⟩
          · rw [e, ansF_none fun q _ => g2 q (Nat.zero_le q)]; rfl
          · rw [e, ansF_some g2 (fun q hq => g3 q (Nat.zero_le q) hq) (show q0 < 12 by have := g2.1; omega)]; rfl) g1).1
        have k' : mR (d + 4) w' 140 70 [some (vR (some (10, 0, 128))), some (vI (Int32.ofNat m)), some (vI (Int32.ofNat s)), some (vI NN), l4] [] Q := k
        rw [e_140_29]
        show mR (d + 4) w' 140 30 [some (vR (some (10, 0, 128))), some (vI (Int32.ofNat m)), some (vI (Int32.ofNat s)), some (vI NN), l4] [vI NN] Q
        rw [e_140_30]
        exact ⟨fun _ => k', fun q => absurd q (by decide)⟩
      | succ j ih =>
        intro w' hj hF g1 g2
        have G' := Fr_Gr hF G
        obtain ⟨np, tp, hA, hB, -⟩ := RuleOk_Fr hF (by omega) (hR j (by omega)) (fun _ _ _ _ q => q) (fun a h q => by omega)
        have a155 : wAI w' 155 (12 * s + j) = x j := by rw [Fr_ai hF (by decide) (by decide)]; exact hx h0 j (by omega)
        have a329 : wFI w' 329 (6 + 3 * j) = wFI w 329 (6 + 3 * j) := Fr_fi hF (by omega) (fun q => q)
        rw [e_140_29]
        show mR (d + 4) w' 140 30 [some (vR (some (10, 0, 128))), some (vI (Int32.ofNat m)), some (vI (Int32.ofNat s)), some (vI (Int32.ofNat j)), l4] [vI (Int32.ofNat j)] Q
        simp (disch := omega) only [e_140_30, e_140_33, e_140_34, e_140_37, e_140_38, e_140_41, e_140_43, e_140_44, e_140_45, e_140_46, e_140_47, e_140_48, e_140_49, e_140_50, i_lit, i_add, i_mul, i_m1, i_lt, i_le, i_eq, i_cl, i_in, i_ltN, i_Nlt, i_leN, i_Nle, i_eN, i_Ne, i_inN, i_l1, i_l2, mj_cpok, mj_nn, reduceCtorEq, lg_self, Nat.not_lt_zero, Nat.zero_le, Nat.reduceEqDiff, Nat.reduceLT, Nat.reduceLeDiff, true_or, or_true, false_or, or_false, not_true_eq_false, not_false_eq_true, true_imp_iff, false_imp_iff, and_self, wrd, u2, and_true, true_and, and_false, false_and, and_self, ite_true, ite_false, reduceIte, g_670 G', a155]
        (repeat' (first | (with_reducible refine And.intro ?_ ?_) | (with_reducible intro _)))
        all_goals try omega
        refine s_129 G' (by omega) hA hB ?_
        simp (disch := omega) only [mK_v, e_140_53, e_140_54, e_140_57, e_140_58, e_140_61, e_140_62, e_140_63, e_140_64, e_140_67, i_lit, i_add, i_mul, i_m1, i_lt, i_le, i_eq, i_cl, i_in, i_ltN, i_Nlt, i_leN, i_Nle, i_eN, i_Ne, i_inN, i_l1, i_l2, mj_cpok, mj_nn, reduceCtorEq, lg_self, Nat.not_lt_zero, Nat.zero_le, Nat.reduceEqDiff, Nat.reduceLT, Nat.reduceLeDiff, true_or, or_true, false_or, or_false, not_true_eq_false, not_false_eq_true, true_imp_iff, false_imp_iff, and_self, wrd, u2, and_true, true_and, and_false, false_and, and_self, ite_true, ite_false, reduceIte, g_671 G', a329, pd_dec]
        refine ⟨fun hz => ?_, fun hz => ⟨by omega, ?_⟩⟩
        · have nc : ¬ anC w nr m x j := fun q => q.2.2 hz
          refine ih w' (by omega) hF g1 ?_
          rcases g2 with ⟨e, g2⟩ | ⟨q0, e, g4, g2, g3⟩
          · refine Or.inl ⟨e, fun q hq => ?_⟩
            by_cases hqj : q = j
            · subst hqj; exact nc
            · exact g2 q (by omega)
          · refine Or.inr ⟨q0, e, by omega, g2, fun q hq hq2 => ?_⟩
            by_cases hqj : q = j
            · subst hqj; exact nc
            · exact g3 q (by omega) hq2
        · have yc : anC w nr m x j := by
            by_cases hmm : j < nr ∧ wFI w 322 (6 + 3 * j) = Int32.ofNat m
            · exact ⟨hmm.1, hmm.2, hz⟩
            · exact absurd (by rw [hmd j hmm, zand]) hz
          refine ih _ (by omega) (Fr_sAI hF (Or.inl rfl)) (fun q hq => by simp only [mj_cpok, mj_nn, reduceCtorEq, lg_self, Nat.not_lt_zero, Nat.zero_le, Nat.reduceEqDiff, Nat.reduceLT, Nat.reduceLeDiff, true_or, or_true, false_or, or_false, not_true_eq_false, not_false_eq_true, true_imp_iff, false_imp_iff, and_self, wrd, u2, and_true, true_and, and_false, false_and, and_self, ite_true, ite_false, reduceIte, hq]; exact g1 q hq) (Or.inr ⟨j, by simp only [mj_cpok, mj_nn, reduceCtorEq, lg_self, Nat.not_lt_zero, Nat.zero_le, Nat.reduceEqDiff, Nat.reduceLT, Nat.reduceLeDiff, true_or, or_true, false_or, or_false, not_true_eq_false, not_false_eq_true, true_imp_iff, false_imp_iff, and_self, wrd, u2, and_true, true_and, and_false, false_and, and_self, ite_true, ite_false, reduceIte], Nat.le_refl j, yc, fun q h1 h2 => by omega⟩)
    exact loop nr (sAI w 156 s NN) (Nat.le_refl nr) (Fr_sAI Fr_refl (Or.inl rfl)) (fun q hq => by simp only [mj_cpok, mj_nn, reduceCtorEq, lg_self, Nat.not_lt_zero, Nat.zero_le, Nat.reduceEqDiff, Nat.reduceLT, Nat.reduceLeDiff, true_or, or_true, false_or, or_false, not_true_eq_false, not_false_eq_true, true_imp_iff, false_imp_iff, and_self, wrd, u2, and_true, true_and, and_false, false_and, and_self, ite_true, ite_false, reduceIte, hq]) (Or.inl ⟨by simp only [mj_cpok, mj_nn, reduceCtorEq, lg_self, Nat.not_lt_zero, Nat.zero_le, Nat.reduceEqDiff, Nat.reduceLT, Nat.reduceLeDiff, true_or, or_true, false_or, or_false, not_true_eq_false, not_false_eq_true, true_imp_iff, false_imp_iff, and_self, wrd, u2, and_true, true_and, and_false, false_and, and_self, ite_true, ite_false, reduceIte], fun q hq hc => by have := hc.1; omega⟩)
theorem s_140 {nr m : Nat} (G : Gr w) (hnr : nr ≤ 12) (hR : ∀ r, r < nr → RuleOk w r) (h1 : wFI w 644 128 = Int32.ofNat nr) (hm : m < 4)
    (K1 : ∀ W n, sEnd (nxF w nr m) n → rsI w nr m (8 * n) W → rsA w nr m n (8 * n) W → Q (.inl (some (vI (Int32.ofNat 1)))) W)
    (K0 : ∀ W, rfFr R140 w W → sBad (nxF w nr m) → Q (.inl (some (vI (Int32.ofNat 0)))) W) :
    mR (d + 4) w 140 0 [some (vR (some (10, 0, 128))), some (vI (Int32.ofNat m)), none, none, none] [] Q := by
  have ruOf : ∀ {W : MWd}, rfFr R140 w W → ruEq w W := fun hF => ⟨Fr_fi hF (by decide) (by omega), fun k a h1 h2 => Fr_fi hF (by omega) (by omega), fun a h1 h2 => Fr_ai hF (by omega) (fun q => by unfold R140 at q; omega)⟩
  have h7 : ∀ (s : Nat) (W : MWd) (l3 l4 : Option MV), rsI w nr m (8 * s) W → rsA w nr m s (8 * s) W → (∀ q, q < s → q < (sSt (nxF w nr m) (8 * q)).1) → s ≤ (sSt (nxF w nr m) (8 * s)).1 →
      (∀ W' l4, rsI w nr m (8 * s) W' → rsA w nr m (s + 1) (8 * s) W' → s < (sSt (nxF w nr m) (8 * s)).1 →
        mR (d + 4) W' 140 72 [some (vR (some (10, 0, 128))), some (vI (Int32.ofNat m)), some (vI (Int32.ofNat s)), some (vI (Int32.ofNat 0)), l4] [] Q) →
      mR (d + 4) W 140 7 [some (vR (some (10, 0, 128))), some (vI (Int32.ofNat m)), some (vI (Int32.ofNat s)), l3, l4] [] Q := by
    intro s W l3 l4 hI hA hP hs K
    have hI' := hI
    obtain ⟨hF, i1, i2, i3, i4⟩ := hI
    have G' := Fr_Gr hF G
    have ru := ruOf hF
    have hRW : ∀ r, r < nr → RuleOk W r := fun r hr => RuleOk_Fr hF (by omega) (hR r hr) (fun _ _ _ _ q => by omega) (fun a h q => by unfold R140 at q; omega)
    have a644 : wFI W 644 128 = Int32.ofNat nr := (Fr_fi hF (by decide) (by omega)).trans h1
    rw [e_140_7]
    simp (disch := omega) only [e_140_8, e_140_9, e_140_12, i_lit, i_add, i_mul, i_m1, i_lt, i_le, i_eq, i_cl, i_in, i_ltN, i_Nlt, i_leN, i_Nle, i_eN, i_Ne, i_inN, i_l1, i_l2, mj_cpok, mj_nn, reduceCtorEq, lg_self, Nat.not_lt_zero, Nat.zero_le, Nat.reduceEqDiff, Nat.reduceLT, Nat.reduceLeDiff, true_or, or_true, false_or, or_false, not_true_eq_false, not_false_eq_true, true_imp_iff, false_imp_iff, and_self, wrd, u2, and_true, true_and, and_false, false_and, and_self, ite_true, ite_false, reduceIte, i2]
    refine ⟨fun hn => ?_, fun hn => ?_⟩
    · have hsn : (sSt (nxF w nr m) (8 * s)).1 = s := by omega
      simp (disch := omega) only [e_140_136, e_140_137, i_lit, i_add, i_mul, i_m1, i_lt, i_le, i_eq, i_cl, i_in, i_ltN, i_Nlt, i_leN, i_Nle, i_eN, i_Ne, i_inN, i_l1, i_l2, mj_cpok, mj_nn, reduceCtorEq, lg_self, Nat.not_lt_zero, Nat.zero_le, Nat.reduceEqDiff, Nat.reduceLT, Nat.reduceLeDiff, true_or, or_true, false_or, or_false, not_true_eq_false, not_false_eq_true, true_imp_iff, false_imp_iff, and_self, wrd, u2, and_true, true_and, and_false, false_and, and_self, ite_true, ite_false, reduceIte]
      exact K1 W s ⟨hP, hsn, by omega⟩ hI' hA
    · simp (disch := omega) only [e_140_15, e_140_16, e_140_19, e_140_20, e_140_21, e_140_22, e_140_23, e_140_26, e_140_27, e_140_28, i_lit, i_m1, mj_cpok, mj_nn, reduceCtorEq, lg_self, Nat.not_lt_zero, Nat.zero_le, Nat.reduceEqDiff, Nat.reduceLT, Nat.reduceLeDiff, true_or, or_true, false_or, or_false, not_true_eq_false, not_false_eq_true, true_imp_iff, false_imp_iff, and_self, wrd, u2, and_true, true_and, and_false, false_and, and_self, ite_true, ite_false, reduceIte, g_671 G', i_in, i_cl, a644, pd_sub]
      refine ⟨by omega, ?_⟩
      have han : ∀ r, ansF W nr m ((sSt (nxF w nr m) (8 * s)).2 s) r = ansF w nr m ((sSt (nxF w nr m) (8 * s)).2 s) r := fun r => ruEq_an ru hnr r
      have fin : ∀ (w' : MWd) (l3 l4 : Option MV), Fr (fun _ _ => False) (fun a => a = 156) 0 0 W w' → wAI w' 156 s = en (ansF W nr m ((sSt (nxF w nr m) (8 * s)).2 s) 12) → (∀ j, j ≠ s → wAI w' 156 j = wAI W 156 j) →
          mR (d + 4) w' 140 72 [some (vR (some (10, 0, 128))), some (vI (Int32.ofNat m)), some (vI (Int32.ofNat s)), some (vI (Int32.ofNat 0)), l4] [] Q := by
        intro w' l3 l4 f1 f2 f3
        refine K w' l4 ⟨?_, i1, ?_, fun k r hk1 hk hr' => ?_, fun q hq => ?_⟩ (fun k hk => ?_) hn
        · exact Fr_trans (x := 0) (y := 0) (x' := 0) (y' := 0) hF (Fr_weak f1 (fun _ _ q => q.elim) (fun a q => by unfold R140; omega) (Nat.le_refl 0) (Nat.le_refl 0))
        · rw [Fr_fi f1 (by decide) (fun q => q)]; exact i2
        · rw [Fr_ai f1 (by decide) (by decide)]; exact i3 k r hk1 hk hr'
        · rw [Fr_ai f1 (by decide) (by decide)]; exact i4 q hq
        · by_cases hks : k = s
          · subst hks; rw [f2, han 12]
          · rw [f3 k hks]; exact hA k (by omega)
      refine s_140a (n := 0) l4 G' hnr hRW a644 (by omega) (fun h0 r hr => i3 s r (by omega) hn hr) (fun h0 r => ?_) (fun r hr => ?_) (fun w' f1 f2 f3 => ⟨?_, ?_⟩)
      · subst h0; rw [sSt_zero]
      · exact sSt_mode (w := w) (fun q => hr ⟨q.1, by
          rw [ru.2.1 322 _ (by have := q.1; omega) (by have := q.1; omega)]; exact q.2⟩) _ s hn
      · show mR (d + 4) w' 140 70 [some (vR (some (10, 0, 128))), some (vI (Int32.ofNat m)), some (vI (Int32.ofNat s)), some (vI (pd 0)), l4] [] Q
        rw [e_140_70, e_140_71]
        exact fin w' none l4 f1 f2 f3
      · rw [e_140_70, e_140_71]
        exact fin w' none l4 f1 f2 f3
  have h72 : ∀ (f s l : Nat) (W : MWd) (l4 : Option MV), 8 * s + l + f = 800 → l < 8 → rsI w nr m (8 * s + l) W → rsA w nr m (s + 1) (8 * s + l) W → (∀ q, q ≤ s → q < (sSt (nxF w nr m) (8 * q)).1) →
      mR (d + 4) W 140 72 [some (vR (some (10, 0, 128))), some (vI (Int32.ofNat m)), some (vI (Int32.ofNat s)), some (vI (Int32.ofNat l)), l4] [] Q := by
    intro f
    induction f with
    | zero =>
      intro s l W l4 hf hl hI hA hP
      exfalso
      have h1 := hP s (Nat.le_refl s)
      have h2 := sSt_mono (f := nxF w nr m) (show 8 * s ≤ 8 * s + l by omega)
      have h3 := hI.2.1
      omega
    | succ f ih =>
      intro s l W l4 hf hl hI hA hP
      have hI' := hI
      obtain ⟨hF, i1, i2, i3, i4⟩ := hI
      have G' := Fr_Gr hF G
      have ru := ruOf hF
      have hRW : ∀ r, r < nr → RuleOk W r := fun r hr => RuleOk_Fr hF (by omega) (hR r hr) (fun _ _ _ _ q => by omega) (fun a h q => by unfold R140 at q; omega)
      have a644 : wFI W 644 128 = Int32.ofNat nr := (Fr_fi hF (by decide) (by omega)).trans h1
      have hs1 := hP s (Nat.le_refl s)
      have hs2 := sSt_mono (f := nxF w nr m) (show 8 * s ≤ 8 * s + l by omega)
      have hz1 := sSt_pos (f := nxF w nr m) (8 * s + l)
      have hd8 : (8 * s + l) / 8 = s := by omega
      have hm8 : (8 * s + l) % 8 = l := by omega
      have nxe : nxF W nr m s (fun q => wAI W 155 (12 * s + q)) l = sNx (nxF w nr m) (sSt (nxF w nr m) (8 * s + l)) (8 * s + l) := by
        unfold sNx
        rw [hd8, hm8, ruEq_nx ru hnr]
        exact nxF_row (fun h0 r hr => i3 s r (by omega) (by omega) hr) hnr
      have hcs := sStep_cases (f := nxF w nr m) (sSt (nxF w nr m) (8 * s + l)) hz1 (8 * s + l)
      have hst : sSt (nxF w nr m) (8 * s + l + 1) = sStep (nxF w nr m) (sSt (nxF w nr m) (8 * s + l)) (8 * s + l) := rfl
      have hmv : sMv (nxF w nr m) (8 * s + l) = sTgt (nxF w nr m) (sSt (nxF w nr m) (8 * s + l)) (8 * s + l) := rfl
      have fin : ∀ (W' : MWd) (l4 : Option MV), rsI w nr m (8 * s + l + 1) W' → rsA w nr m (s + 1) (8 * s + l + 1) W' →
          mR (d + 4) W' 140 72 [some (vR (some (10, 0, 128))), some (vI (Int32.ofNat m)), some (vI (Int32.ofNat s)), some (vI (Int32.ofNat (l + 1))), l4] [] Q := by
        intro W' l4 g1 g2
        by_cases hl8 : l + 1 < 8
        · exact ih s (l + 1) W' l4 (by omega) hl8 g1 g2 hP
        · have hl7 : l = 7 := by omega
          subst hl7
          have e8 : 8 * s + 7 + 1 = 8 * (s + 1) := by omega
          rw [e8] at g1 g2
          rw [e_140_72]
          simp (disch := omega) only [e_140_73, e_140_75, e_140_130, e_140_133, i_lit, i_add, i_mul, i_m1, i_lt, i_le, i_eq, i_cl, i_in, i_ltN, i_Nlt, i_leN, i_Nle, i_eN, i_Ne, i_inN, i_l1, i_l2, mj_cpok, mj_nn, reduceCtorEq, lg_self, Nat.not_lt_zero, Nat.zero_le, Nat.reduceEqDiff, Nat.reduceLT, Nat.reduceLeDiff, true_or, or_true, false_or, or_false, not_true_eq_false, not_false_eq_true, true_imp_iff, false_imp_iff, and_self, wrd, u2, and_true, true_and, and_false, false_and, and_self, ite_true, ite_false, reduceIte]
          refine ⟨?_, fun q => by omega⟩
          refine h7 (s + 1) W' _ _ g1 g2 (fun q hq => hP q (by omega)) ?_ (fun W'' l4' b1 b2 b3 => ?_)
          · have := sSt_mono (f := nxF w nr m) (show 8 * s ≤ 8 * (s + 1) by omega); omega
          · refine ih (s + 1) 0 W'' l4' (by omega) (by omega) b1 b2 (fun q hq => ?_)
            by_cases hqs : q = s + 1
            · subst hqs; exact b3
            · exact hP q (by omega)
      have frm : ∀ {w' : MWd}, Fr (fun _ _ => False) (fun a => a = 155) 0 0 W w' → rfFr R140 w w' := fun f1 => Fr_trans (x := 0) (y := 0) (x' := 0) (y' := 0) hF (Fr_weak f1 (fun _ _ q => q.elim) (fun a q => by unfold R140; omega) (Nat.le_refl 0) (Nat.le_refl 0))
      have NN1 : NN + Int32.ofNat 1 = Int32.ofNat 0 := by decide
      rw [e_140_72]
      simp (disch := omega) only [e_140_73, e_140_75, e_140_78, e_140_79, e_140_80, e_140_81, e_140_82, i_lit, i_add, i_mul, i_m1, i_lt, i_le, i_eq, i_cl, i_in, i_ltN, i_Nlt, i_leN, i_Nle, i_eN, i_Ne, i_inN, i_l1, i_l2, mj_cpok, mj_nn, reduceCtorEq, lg_self, Nat.not_lt_zero, Nat.zero_le, Nat.reduceEqDiff, Nat.reduceLT, Nat.reduceLeDiff, true_or, or_true, false_or, or_false, not_true_eq_false, not_false_eq_true, true_imp_iff, false_imp_iff, and_self, wrd, u2, and_true, true_and, and_false, false_and, and_self, ite_true, ite_false, reduceIte]
      refine ⟨fun q => by omega, fun _ => ?_⟩
      refine s_138 G' hnr hRW a644 i2 hz1 i1 (by omega) hl hm (fun w' f1 g1 z0 => ?_) (fun w' k f1 g1 g2 z0 k1 k2 k3 k4 => ?_)
      · rw [nxe] at z0
        have hz : zrow (sNx (nxF w nr m) (sSt (nxF w nr m) (8 * s + l)) (8 * s + l)) = true := zrow_iff.mpr z0
        have G'' := Fr_Gr f1 G'
        have b669 : wFI w' 669 128 = Int32.ofNat (sSt (nxF w nr m) (8 * s + l)).1 := (Fr_fi f1 (by decide) (fun q => q)).trans i2
        rcases hcs with ⟨-, c2, c3⟩ | ⟨k', -, -, c1, -⟩ | ⟨c1, -⟩
        · rw [c3] at hst
          rw [c2] at hmv
          simp (disch := omega) only [mK_v, e_140_85, e_140_87, e_140_89, e_140_91, e_140_96, e_140_97, e_140_100, e_140_102, e_140_103, e_140_104, e_140_105, e_140_106, e_140_108, e_140_109, e_140_110, e_140_111, e_140_114, e_140_116, e_140_117, e_140_118, e_140_121, e_140_124, e_140_127, i_lit, i_add, i_mul, i_m1, i_lt, i_le, i_eq, i_cl, i_in, i_ltN, i_Nlt, i_leN, i_Nle, i_eN, i_Ne, i_inN, i_l1, i_l2, mj_cpok, mj_nn, reduceCtorEq, lg_self, Nat.not_lt_zero, Nat.zero_le, Nat.reduceEqDiff, Nat.reduceLT, Nat.reduceLeDiff, true_or, or_true, false_or, or_false, not_true_eq_false, not_false_eq_true, true_imp_iff, false_imp_iff, and_self, wrd, u2, and_true, true_and, and_false, false_and, and_self, ite_true, ite_false, reduceIte, g_672 G'', NN1, b669]
          refine ⟨by omega, fin _ _ ⟨?_, ?_, ?_, fun k r hk1 hk hr' => ?_, fun q hq => ?_⟩ (fun k hk => ?_)⟩
          · exact Fr_sFI (Fr_sAI (frm f1) (Or.inl (by unfold R140; omega))) (Or.inl ⟨rfl, rfl⟩)
          · rw [hst]; exact i1
          · rw [hst]; simp only [mj_cpok, mj_nn, reduceCtorEq, lg_self, Nat.not_lt_zero, Nat.zero_le, Nat.reduceEqDiff, Nat.reduceLT, Nat.reduceLeDiff, true_or, or_true, false_or, or_false, not_true_eq_false, not_false_eq_true, true_imp_iff, false_imp_iff, and_self, wrd, u2, and_true, true_and, and_false, false_and, and_self, ite_true, ite_false, reduceIte]
          · rw [hst] at hk ⊢
            show wAI w' 155 _ = _
            rw [g1 _ (by omega)]; exact i3 k r hk1 hk hr'
          · show u2 (wAI w') 157 (8 * s + l) NN 157 q = _
            rw [u2_at]
            by_cases hqt : q = 8 * s + l
            · rw [if_pos hqt, hqt, hmv]; rfl
            · rw [if_neg hqt, Fr_ai f1 (by decide) (by decide)]; exact i4 q (by omega)
          · rw [hst]
            show wAI w' 156 k = _
            rw [Fr_ai f1 (by decide) (by decide)]; exact hA k hk
        · rw [hz] at c1; cases c1
        · rw [hz] at c1; cases c1
      · rw [nxe] at z0 g2 k3 k4
        have hz : zrow (sNx (nxF w nr m) (sSt (nxF w nr m) (8 * s + l)) (8 * s + l)) = false := Bool.eq_false_iff.mpr fun q => z0 (zrow_iff.mp q)
        have G'' := Fr_Gr f1 G'
        have b669 : wFI w' 669 128 = Int32.ofNat (sSt (nxF w nr m) (8 * s + l)).1 := (Fr_fi f1 (by decide) (fun q => q)).trans i2
        have hrow : ∀ j, 1 ≤ j → j < (sSt (nxF w nr m) (8 * s + l)).1 → ((∀ r, r < 12 → wAI W 155 (12 * j + r) = sNx (nxF w nr m) (sSt (nxF w nr m) (8 * s + l)) (8 * s + l) r) ↔ srow ((sSt (nxF w nr m) (8 * s + l)).2 j) (sNx (nxF w nr m) (sSt (nxF w nr m) (8 * s + l)) (8 * s + l)) = true) := by
          intro j hj1 hj
          rw [srow_iff]
          constructor
          · intro h r hr'; rw [← i3 j r hj1 hj hr', h r hr']
          · intro h r hr'; rw [i3 j r hj1 hj hr', h r hr']
        rcases hcs with ⟨c1, -⟩ | ⟨k', e1, e2, -, c2, c3, e3, e4⟩ | ⟨-, c2, c3, e4⟩
        · rw [hz] at c1; cases c1
        · have hkk : k' = k := by
            rcases Nat.lt_trichotomy k' k with h9 | h9 | h9
            · exact absurd ((hrow k' e1 e2).mpr e3) (k4 k' e1 h9)
            · exact h9
            · have h10 := (hrow k k1 (by omega)).mp (k3 (by omega))
              rw [e4 k k1 h9] at h10; cases h10
          subst hkk
          rw [c3] at hst
          rw [c2] at hmv
          have nlt : ¬ (sSt (nxF w nr m) (8 * s + l)).1 < k' + 1 := by omega
          simp (disch := omega) only [mK_v, e_140_85, e_140_87, e_140_89, e_140_91, e_140_96, e_140_97, e_140_100, e_140_102, e_140_103, e_140_104, e_140_105, e_140_106, e_140_108, e_140_109, e_140_110, e_140_111, e_140_114, e_140_116, e_140_117, e_140_118, e_140_121, e_140_124, e_140_127, i_lit, i_add, i_mul, i_m1, i_lt, i_le, i_eq, i_cl, i_in, i_ltN, i_Nlt, i_leN, i_Nle, i_eN, i_Ne, i_inN, i_l1, i_l2, mj_cpok, mj_nn, reduceCtorEq, lg_self, Nat.not_lt_zero, Nat.zero_le, Nat.reduceEqDiff, Nat.reduceLT, Nat.reduceLeDiff, true_or, or_true, false_or, or_false, not_true_eq_false, not_false_eq_true, true_imp_iff, false_imp_iff, and_self, wrd, u2, and_true, true_and, and_false, false_and, and_self, ite_true, ite_false, reduceIte, g_672 G'', b669, nlt]
          (repeat' (first | (with_reducible refine And.intro ?_ ?_) | (with_reducible intro _)))
          all_goals try omega
          refine fin _ _ ⟨?_, ?_, ?_, fun k r hk1 hk hr' => ?_, fun q hq => ?_⟩ (fun k hk => ?_)
          · exact Fr_sFI (Fr_sAI (frm f1) (Or.inl (by unfold R140; omega))) (Or.inl ⟨rfl, rfl⟩)
          · rw [hst]; exact i1
          · rw [hst]; simp only [mj_cpok, mj_nn, reduceCtorEq, lg_self, Nat.not_lt_zero, Nat.zero_le, Nat.reduceEqDiff, Nat.reduceLT, Nat.reduceLeDiff, true_or, or_true, false_or, or_false, not_true_eq_false, not_false_eq_true, true_imp_iff, false_imp_iff, and_self, wrd, u2, and_true, true_and, and_false, false_and, and_self, ite_true, ite_false, reduceIte]
          · rw [hst] at hk ⊢
            show wAI w' 155 _ = _
            rw [g1 _ (by omega)]; exact i3 k r hk1 hk hr'
          · show u2 (wAI w') 157 (8 * s + l) (Int32.ofNat k') 157 q = _
            rw [u2_at]
            by_cases hqt : q = 8 * s + l
            · rw [if_pos hqt, hqt, hmv]; rfl
            · rw [if_neg hqt, Fr_ai f1 (by decide) (by decide)]; exact i4 q (by omega)
          · rw [hst]
            show wAI w' 156 k = _
            rw [Fr_ai f1 (by decide) (by decide)]; exact hA k hk
        · have hkn : k = (sSt (nxF w nr m) (8 * s + l)).1 := by
            by_cases hk : k < (sSt (nxF w nr m) (8 * s + l)).1
            · have h10 := (hrow k k1 hk).mp (k3 hk)
              rw [e4 k k1 hk] at h10; cases h10
            · omega
          subst hkn
          rw [c3] at hst
          rw [c2] at hmv
          by_cases h100 : (sSt (nxF w nr m) (8 * s + l)).1 = 100
          · simp (disch := omega) only [mK_v, e_140_85, e_140_87, e_140_89, e_140_91, e_140_94, e_140_95, i_lit, i_add, i_mul, i_m1, i_lt, i_le, i_eq, i_cl, i_in, i_ltN, i_Nlt, i_leN, i_Nle, i_eN, i_Ne, i_inN, i_l1, i_l2, mj_cpok, mj_nn, reduceCtorEq, lg_self, Nat.not_lt_zero, Nat.zero_le, Nat.reduceEqDiff, Nat.reduceLT, Nat.reduceLeDiff, true_or, or_true, false_or, or_false, not_true_eq_false, not_false_eq_true, true_imp_iff, false_imp_iff, and_self, wrd, u2, and_true, true_and, and_false, false_and, and_self, ite_true, ite_false, reduceIte, h100]
            refine K0 w' (frm f1) ⟨8 * s + l, fun q hq => hP q (by omega), h100, ?_⟩
            rw [hst]; show _ + 1 = 101; rw [h100]
          · have nlt : (sSt (nxF w nr m) (8 * s + l)).1 < (sSt (nxF w nr m) (8 * s + l)).1 + 1 := by omega
            have h1e : (sSt (nxF w nr m) (8 * s + l + 1)).1 = (sSt (nxF w nr m) (8 * s + l)).1 + 1 := by rw [hst]
            have h2e : ∀ k, (sSt (nxF w nr m) (8 * s + l + 1)).2 k = if k = (sSt (nxF w nr m) (8 * s + l)).1 then sNx (nxF w nr m) (sSt (nxF w nr m) (8 * s + l)) (8 * s + l) else (sSt (nxF w nr m) (8 * s + l)).2 k := by intro k; rw [hst]; rfl
            simp (disch := omega) only [mK_v, e_140_85, e_140_87, e_140_89, e_140_91, e_140_96, e_140_97, e_140_100, e_140_102, e_140_103, e_140_104, e_140_105, e_140_106, e_140_108, e_140_109, e_140_110, e_140_111, e_140_114, e_140_116, e_140_117, e_140_118, e_140_121, e_140_124, e_140_127, i_lit, i_add, i_mul, i_m1, i_lt, i_le, i_eq, i_cl, i_in, i_ltN, i_Nlt, i_leN, i_Nle, i_eN, i_Ne, i_inN, i_l1, i_l2, mj_cpok, mj_nn, reduceCtorEq, lg_self, Nat.not_lt_zero, Nat.zero_le, Nat.reduceEqDiff, Nat.reduceLT, Nat.reduceLeDiff, true_or, or_true, false_or, or_false, not_true_eq_false, not_false_eq_true, true_imp_iff, false_imp_iff, and_self, wrd, u2, and_true, true_and, and_false, false_and, and_self, ite_true, ite_false, reduceIte, g_672 G'', b669, nlt, h100]
            (repeat' (first | (with_reducible refine And.intro ?_ ?_) | (with_reducible intro _)))
            all_goals try omega
            refine fin _ _ ⟨?_, ?_, ?_, fun k r hk1 hk hr' => ?_, fun q hq => ?_⟩ (fun k hk => ?_)
            · exact Fr_sFI (Fr_sAI (frm f1) (Or.inl (by unfold R140; omega))) (Or.inl ⟨rfl, rfl⟩)
            · rw [h1e]; omega
            · rw [h1e]; simp only [mj_cpok, mj_nn, reduceCtorEq, lg_self, Nat.not_lt_zero, Nat.zero_le, Nat.reduceEqDiff, Nat.reduceLT, Nat.reduceLeDiff, true_or, or_true, false_or, or_false, not_true_eq_false, not_false_eq_true, true_imp_iff, false_imp_iff, and_self, wrd, u2, and_true, true_and, and_false, false_and, and_self, ite_true, ite_false, reduceIte]
            · rw [h1e] at hk
              rw [h2e]
              show wAI w' 155 _ = _
              by_cases hkn : k = (sSt (nxF w nr m) (8 * s + l)).1
              · rw [if_pos hkn, hkn, g2 r hr']
              · rw [if_neg hkn, g1 _ (by omega)]; exact i3 k r hk1 (by omega) hr'
            · show u2 (wAI w') 157 (8 * s + l) _ 157 q = _
              rw [u2_at]
              by_cases hqt : q = 8 * s + l
              · rw [if_pos hqt, hqt, hmv]; rfl
              · rw [if_neg hqt, Fr_ai f1 (by decide) (by decide)]; exact i4 q (by omega)
            · rw [h2e, if_neg (by omega)]
              show wAI w' 156 k = _
              rw [Fr_ai f1 (by decide) (by decide)]; exact hA k hk
  rw [e_140_0, e_140_1, e_140_2, e_140_5, e_140_6]
  refine h7 0 _ _ _ ⟨Fr_sFI Fr_refl (Or.inl ⟨rfl, rfl⟩), (show 1 ≤ 100 by decide), by simp only [mj_cpok, mj_nn, reduceCtorEq, lg_self, Nat.not_lt_zero, Nat.zero_le, Nat.reduceEqDiff, Nat.reduceLT, Nat.reduceLeDiff, true_or, or_true, false_or, or_false, not_true_eq_false, not_false_eq_true, true_imp_iff, false_imp_iff, and_self, wrd, u2, and_true, true_and, and_false, false_and, and_self, ite_true, ite_false, reduceIte, i_lit]; rfl, fun k r hk1 hk hr' => ?_, fun q hq => absurd hq (Nat.not_lt_zero q)⟩ (fun k hk => absurd hk (Nat.not_lt_zero k)) (fun q hq => absurd hq (Nat.not_lt_zero q)) (Nat.zero_le _) (fun W'' l4' b1 b2 b3 => ?_)
  · have hk9 : k < 1 := hk
    omega
  · refine h72 800 0 0 W'' l4' (by omega) (by omega) b1 b2 (fun q hq => ?_)
    have hq0 : q = 0 := by omega
    subst hq0; exact b3
end RS
