/-! scan: findPiece. -/
section SC
variable {d : Nat} {w : MWd} {Q : MRes → MWd → Prop}
def stV (N : Nat) (mv : Nat → Option Nat) (B : Nat → Nat) (p j : Nat) : Int32 := if j = 0 then Int32.ofNat 0 else en (pq N mv B p j)
theorem s_17j {c m N p j : Nat} {mv an : Nat → Option Nat} {B : Nat → Nat} (hgs : grS w c) (hm : m < 4) (hA : ClsA w c m N mv an) (h6 : ∀ t a, t < 8 * N → mv t = some a → a < N)
    (h : Q (.inl (some (vI (en (pq N mv B p (j + 1)))))) w) : mR (d + 1) w 17 0 [some (vR (some (1, 0, c + 2 + 8 * m))), some (vI (stV N mv B p j)), some (vI (en (ltO (B (p + j)))))] [] Q := by
  by_cases hz : j = 0 ∧ N = 0
  · obtain ⟨hj, hN⟩ := hz
    subst hj
    subst hN
    have hA2 := hA.2.1
    have e : pq 0 mv B p (0 + 1) = none := rfl
    rw [e] at h
    show mR (d + 1) w 17 0 [some (vR (some (1, 0, c + 2 + 8 * m))), some (vI (Int32.ofNat 0)), some (vI (en (ltO (B (p + 0)))))] [] Q
    simp (disch := omega) only [e_17_0, e_17_1, e_17_2, e_17_5, e_17_8, e_17_9, e_17_12, e_17_13, e_17_15, e_17_18, e_17_19, e_17_22, e_17_23, e_17_25, e_17_26, e_17_27, e_17_28, e_17_29, e_17_32, e_17_33, e_16_0, e_16_1, e_16_4, e_16_5, e_16_6, e_16_9, e_16_12, e_16_13, e_16_15, e_16_18, e_16_19, e_16_22, e_16_23, i_lit, i_add, i_mul, i_m1, i_lt, i_le, i_eq, i_cl, i_in, i_ltN, i_Nlt, i_leN, i_Nle, i_eN, i_Ne, i_inN, i_l1, i_l2, mj_cpok, mj_nn, reduceCtorEq, lg_self, Nat.not_lt_zero, Nat.zero_le, Nat.reduceEqDiff, Nat.reduceLT, Nat.reduceLeDiff, true_or, or_true, false_or, or_false, not_true_eq_false, not_false_eq_true, true_imp_iff, false_imp_iff, and_self, wrd, u2, and_true, true_and, and_false, false_and, and_self, ite_true, ite_false, reduceIte, mK_v, hA2]
    (repeat' (first | (with_reducible refine And.intro ?_ ?_) | (with_reducible intro _)))
    all_goals first | omega | exact h
  · have e : stV N mv B p j = en (pq N mv B p j) := by
      unfold stV
      by_cases hj : j = 0
      · subst hj
        rw [if_pos rfl]
        show _ = en (if 0 < N then some 0 else none)
        rw [if_pos (by omega)]; rfl
      · rw [if_neg hj]
    rw [e]
    exact s_17 hgs hm hA (fun s hs => pq_lt h6 hs) (fun l hl => (ltO_lt hl).1) h
theorem s_5 {c m N n p : Nat} {mv an : Nat → Option Nat} {B : Nat → Nat} (G : Gr w) (hc : c = 60 ∨ c = 94) (hm : m < 4) (hA : ClsA w c m N mv an) (h6 : ∀ t a, t < 8 * N → mv t = some a → a < N) (hb : ∀ s q, s < N → an s = some q → q < 12) (hn : n ≤ 1000) (h1 : wFI w 449 2 = Int32.ofNat n)
    (hB : ∀ i, i < n → B i < 256 ∧ wAI w 3 i = Int32.ofNat (B i)) (hp : p ≤ n) (h4 : wFI w 4 57 = Int32.ofNat p)
    (K : ∀ W, Fr (fun k a => (k = 7 ∨ k = 8) ∧ a = 57) (fun _ => False) 0 0 w W → wFI W 7 57 = Int32.ofNat (pcs N mv an B p (n - p)).2 → wFI W 8 57 = en (pcs N mv an B p (n - p)).1 → Q (.inl none) W) :
    mR (d + 2) w 5 0 [some (vR (some (0, 0, 57))), some (vR (some (7, 0, 2))), some (vR (some (1, 0, c + 2 + 8 * m))), none, none, none] [] Q := by
  have loop : ∀ (f j : Nat) (W : MWd) (l5 : Option MV), j + f = n - p → Fr (fun k a => (k = 7 ∨ k = 8) ∧ a = 57) (fun _ => False) 0 0 w W → wFI W 7 57 = Int32.ofNat (pcs N mv an B p j).2 → wFI W 8 57 = en (pcs N mv an B p j).1 →
      mR (d + 2) W 5 18 [some (vR (some (0, 0, 57))), some (vR (some (7, 0, 2))), some (vR (some (1, 0, c + 2 + 8 * m))), some (vI (stV N mv B p j)), some (vI (Int32.ofNat (p + j))), l5] [] Q := by
    intro f
    induction f with
    | zero =>
      intro j W l5 hj hF g1 g2
      have he : j = n - p := by omega
      subst he
      have a449 : wFI W 449 2 = Int32.ofNat n := (Fr_fi hF (by decide) (by omega)).trans h1
      rw [e_5_18]
      simp (disch := omega) only [e_5_19, e_5_22, e_5_24, e_5_25, e_5_28, e_5_86, i_lit, i_add, i_mul, i_m1, i_lt, i_le, i_eq, i_cl, i_in, i_ltN, i_Nlt, i_leN, i_Nle, i_eN, i_Ne, i_inN, i_l1, i_l2, mj_cpok, mj_nn, reduceCtorEq, lg_self, Nat.not_lt_zero, Nat.zero_le, Nat.reduceEqDiff, Nat.reduceLT, Nat.reduceLeDiff, true_or, or_true, false_or, or_false, not_true_eq_false, not_false_eq_true, true_imp_iff, false_imp_iff, and_self, wrd, u2, and_true, true_and, and_false, false_and, and_self, ite_true, ite_false, reduceIte, a449]
      (repeat' (first | (with_reducible refine And.intro ?_ ?_) | (with_reducible intro _)))
      all_goals try omega
      exact K W hF g1 g2
    | succ f ih =>
      intro j W l5 hj hF g1 g2
      have G' := Fr_Gr hF G
      have hgs := g_set G' hc
      have hAW : ClsA W c m N mv an := by
        obtain ⟨c1, c2, c3, c4⟩ := hA
        refine ⟨c1, (Fr_fi hF (by omega) (by omega)).trans c2, ?_, ?_⟩
        · rw [Fr_ai hF (by omega) (fun q => q)]; exact c3
        · rw [Fr_ai hF (by omega) (fun q => q)]; exact c4
      have a449 : wFI W 449 2 = Int32.ofNat n := (Fr_fi hF (by decide) (by omega)).trans h1
      have a4 : wFI W 4 57 = Int32.ofNat p := (Fr_fi hF (by decide) (by omega)).trans h4
      have hBj := hB (p + j) (by omega)
      have aB : B (p + j) < 256 ∧ wAI W 3 (p + j) = Int32.ofNat (B (p + j)) := ⟨hBj.1, by rw [Fr_ai hF (by decide) (fun q => q)]; exact hBj.2⟩
      have hN := hA.1
      rw [e_5_18]
      by_cases hst : stV N mv B p j = NN
      · have hq : pq N mv B p j = none := by
          unfold stV at hst
          by_cases hj0 : j = 0
          · rw [if_pos hj0] at hst; exact absurd hst (by decide)
          · rw [if_neg hj0] at hst
            exact (en_N (fun q hq => by have := pq_lt h6 hq; omega)).mp hst
        have hpe := pcs_none (an := an) hq (n - p - j)
        rw [show j + (n - p - j) = n - p by omega] at hpe
        simp (disch := omega) only [e_5_19, e_5_22, e_5_24, e_5_25, e_5_28, e_5_31, e_5_32, e_5_33, e_5_86, i_lit, i_add, i_mul, i_m1, i_lt, i_le, i_eq, i_cl, i_in, i_ltN, i_Nlt, i_leN, i_Nle, i_eN, i_Ne, i_inN, i_l1, i_l2, mj_cpok, mj_nn, reduceCtorEq, lg_self, Nat.not_lt_zero, Nat.zero_le, Nat.reduceEqDiff, Nat.reduceLT, Nat.reduceLeDiff, true_or, or_true, false_or, or_false, not_true_eq_false, not_false_eq_true, true_imp_iff, false_imp_iff, and_self, wrd, u2, and_true, true_and, and_false, false_and, and_self, ite_true, ite_false, reduceIte, a449, hst]
        (repeat' (first | (with_reducible refine And.intro ?_ ?_) | (with_reducible intro _)))
        all_goals try omega
        all_goals exact K W hF (by rw [g1, hpe]) (by rw [g2, hpe])
      · have hst' : (stV N mv B p j = NN) = False := eq_false hst
        simp (disch := omega) only [e_5_19, e_5_22, e_5_24, e_5_25, e_5_28, e_5_31, e_5_32, e_5_33, e_5_36, e_5_37, e_5_38, e_5_39, e_5_41, i_lit, i_add, i_mul, i_m1, i_lt, i_le, i_eq, i_cl, i_in, i_ltN, i_Nlt, i_leN, i_Nle, i_eN, i_Ne, i_inN, i_l1, i_l2, mj_cpok, mj_nn, reduceCtorEq, lg_self, Nat.not_lt_zero, Nat.zero_le, Nat.reduceEqDiff, Nat.reduceLT, Nat.reduceLeDiff, true_or, or_true, false_or, or_false, not_true_eq_false, not_false_eq_true, true_imp_iff, false_imp_iff, and_self, wrd, u2, and_true, true_and, and_false, false_and, and_self, ite_true, ite_false, reduceIte, a449, hst']
        (repeat' (first | (with_reducible refine And.intro ?_ ?_) | (with_reducible intro _)))
        all_goals try omega
        refine s_80 G' hn a449 (by omega) aB ?_
        simp (disch := omega) only [mK_v, e_5_44]
        refine s_17j (an := an) hgs hm hAW h6 ?_
        simp (disch := omega) only [mK_v, e_5_47, e_5_48, e_5_49, e_5_50]
        refine s_18 hgs hm hAW (fun s hs => pq_lt h6 hs) ?_
        have est : en (pq N mv B p (j + 1)) = stV N mv B p (j + 1) := by unfold stV; rw [if_neg (by omega)]
        rw [est]
        cases hq : pq N mv B p (j + 1) with
        | none =>
          have hpe : pcs N mv an B p (j + 1) = pcs N mv an B p j := by
            show (match pq N mv B p (j + 1) with | none => pcs N mv an B p j | some s => _) = _
            rw [hq]
          show (mK _ _ _ _ _ _ _ (.inl (some (vI NN))) W)
          have nn := ih (j + 1) W (some (vI NN)) (by omega) hF (by rw [g1, hpe]) (by rw [g2, hpe])
          simp (disch := omega) only [mK_v, e_5_53, e_5_55, e_5_57, e_5_58, e_5_80, e_5_83, i_lit, i_add, i_mul, i_m1, i_lt, i_le, i_eq, i_cl, i_in, i_ltN, i_Nlt, i_leN, i_Nle, i_eN, i_Ne, i_inN, i_l1, i_l2, mj_cpok, mj_nn, reduceCtorEq, lg_self, Nat.not_lt_zero, Nat.zero_le, Nat.reduceEqDiff, Nat.reduceLT, Nat.reduceLeDiff, true_or, or_true, false_or, or_false, not_true_eq_false, not_false_eq_true, true_imp_iff, false_imp_iff, and_self, wrd, u2, and_true, true_and, and_false, false_and, and_self, ite_true, ite_false, reduceIte]
          (repeat' (first | (with_reducible refine And.intro ?_ ?_) | (with_reducible intro _)))
          all_goals first | omega | exact nn
        | some s =>
          have hs := pq_lt h6 hq
          cases ha : an s with
          | none =>
            have hpe : pcs N mv an B p (j + 1) = pcs N mv an B p j := by
              show (match pq N mv B p (j + 1) with | none => pcs N mv an B p j | some s => _) = _
              rw [hq]; dsimp only; rw [ha]
            show (mK _ _ _ _ _ _ _ (.inl (some (vI (en (an s))))) W)
            rw [ha]
            show (mK _ _ _ _ _ _ _ (.inl (some (vI NN))) W)
            have nn := ih (j + 1) W (some (vI NN)) (by omega) hF (by rw [g1, hpe]) (by rw [g2, hpe])
            simp (disch := omega) only [mK_v, e_5_53, e_5_55, e_5_57, e_5_58, e_5_80, e_5_83, i_lit, i_add, i_mul, i_m1, i_lt, i_le, i_eq, i_cl, i_in, i_ltN, i_Nlt, i_leN, i_Nle, i_eN, i_Ne, i_inN, i_l1, i_l2, mj_cpok, mj_nn, reduceCtorEq, lg_self, Nat.not_lt_zero, Nat.zero_le, Nat.reduceEqDiff, Nat.reduceLT, Nat.reduceLeDiff, true_or, or_true, false_or, or_false, not_true_eq_false, not_false_eq_true, true_imp_iff, false_imp_iff, and_self, wrd, u2, and_true, true_and, and_false, false_and, and_self, ite_true, ite_false, reduceIte]
            (repeat' (first | (with_reducible refine And.intro ?_ ?_) | (with_reducible intro _)))
            all_goals first | omega | exact nn
          | some r =>
            have hr := hb s r hs ha
            have hpe : pcs N mv an B p (j + 1) = (some r, j + 1) := by
              show (match pq N mv B p (j + 1) with | none => pcs N mv an B p j | some s => _) = _
              rw [hq]; dsimp only; rw [ha]
            show (mK _ _ _ _ _ _ _ (.inl (some (vI (en (an s))))) W)
            rw [ha]
            show (mK _ _ _ _ _ _ _ (.inl (some (vI (Int32.ofNat r)))) W)
            have nn := ih (j + 1) (sFI (sFI W 7 57 (Int32.ofNat (j + 1))) 8 57 (Int32.ofNat r)) (some (vI (Int32.ofNat r))) (by omega) (Fr_sFI (Fr_sFI hF (Or.inl ⟨Or.inl rfl, rfl⟩)) (Or.inl ⟨Or.inr rfl, rfl⟩)) (by rw [hpe]; simp only [mj_cpok, mj_nn, reduceCtorEq, lg_self, Nat.not_lt_zero, Nat.zero_le, Nat.reduceEqDiff, Nat.reduceLT, Nat.reduceLeDiff, true_or, or_true, false_or, or_false, not_true_eq_false, not_false_eq_true, true_imp_iff, false_imp_iff, and_self, wrd, u2, and_true, true_and, and_false, false_and, and_self, ite_true, ite_false, reduceIte]) (by rw [hpe]; simp only [mj_cpok, mj_nn, reduceCtorEq, lg_self, Nat.not_lt_zero, Nat.zero_le, Nat.reduceEqDiff, Nat.reduceLT, Nat.reduceLeDiff, true_or, or_true, false_or, or_false, not_true_eq_false, not_false_eq_true, true_imp_iff, false_imp_iff, and_self, wrd, u2, and_true, true_and, and_false, false_and, and_self, ite_true, ite_false, reduceIte]; rfl)
            have hsub : Int32.ofNat (p + j) - Int32.ofNat p = Int32.ofNat j := by rw [i_sub (by omega)]; congr 1; omega
            simp (disch := omega) only [mK_v, e_5_53, e_5_55, e_5_57, e_5_58, e_5_61, e_5_62, e_5_64, e_5_65, e_5_68, e_5_69, e_5_70, e_5_71, e_5_74, e_5_75, e_5_77, e_5_80, e_5_83, i_lit, i_add, i_mul, i_m1, i_lt, i_le, i_eq, i_cl, i_in, i_ltN, i_Nlt, i_leN, i_Nle, i_eN, i_Ne, i_inN, i_l1, i_l2, mj_cpok, mj_nn, reduceCtorEq, lg_self, Nat.not_lt_zero, Nat.zero_le, Nat.reduceEqDiff, Nat.reduceLT, Nat.reduceLeDiff, true_or, or_true, false_or, or_false, not_true_eq_false, not_false_eq_true, true_imp_iff, false_imp_iff, and_self, wrd, u2, and_true, true_and, and_false, false_and, and_self, ite_true, ite_false, reduceIte, a4, hsub]
            (repeat' (first | (with_reducible refine And.intro ?_ ?_) | (with_reducible intro _)))
            all_goals first | omega | exact nn
  simp (disch := omega) only [e_5_0, e_5_1, e_5_2, e_5_5, e_5_6, e_5_7, e_5_10, e_5_11, e_5_12, e_5_13, e_5_16, i_lit, i_add, i_mul, i_m1, i_lt, i_le, i_eq, i_cl, i_in, i_ltN, i_Nlt, i_leN, i_Nle, i_eN, i_Ne, i_inN, i_l1, i_l2, mj_cpok, mj_nn, reduceCtorEq, lg_self, Nat.not_lt_zero, Nat.zero_le, Nat.reduceEqDiff, Nat.reduceLT, Nat.reduceLeDiff, true_or, or_true, false_or, or_false, not_true_eq_false, not_false_eq_true, true_imp_iff, false_imp_iff, and_self, wrd, u2, and_true, true_and, and_false, false_and, and_self, ite_true, ite_false, reduceIte, h4]
  exact loop (n - p) 0 _ none (by omega) (Fr_sFI (Fr_sFI Fr_refl (Or.inl ⟨Or.inl rfl, rfl⟩)) (Or.inl ⟨Or.inr rfl, rfl⟩)) (by simp only [mj_cpok, mj_nn, reduceCtorEq, lg_self, Nat.not_lt_zero, Nat.zero_le, Nat.reduceEqDiff, Nat.reduceLT, Nat.reduceLeDiff, true_or, or_true, false_or, or_false, not_true_eq_false, not_false_eq_true, true_imp_iff, false_imp_iff, and_self, wrd, u2, and_true, true_and, and_false, false_and, and_self, ite_true, ite_false, reduceIte]; rfl) (by simp only [mj_cpok, mj_nn, reduceCtorEq, lg_self, Nat.not_lt_zero, Nat.zero_le, Nat.reduceEqDiff, Nat.reduceLT, Nat.reduceLeDiff, true_or, or_true, false_or, or_false, not_true_eq_false, not_false_eq_true, true_imp_iff, false_imp_iff, and_self, wrd, u2, and_true, true_and, and_false, false_and, and_self, ite_true, ite_false, reduceIte]; rfl)
end SC
