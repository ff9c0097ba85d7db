/-! build: the class numbers its kinds. -/
section NP
variable {n : Nat} {kd : Nat → Nat} {mv : Nat → Option Nat}
theorem nSt_val (hkl : ∀ i, i < n → kd i < n) (hn : 1 ≤ n) (h6 : ∀ t a, t < 8 * n → mv t = some a → a < n) : ∀ t, (∀ k, k < (nSt kd mv t).1 → (nSt kd mv t).2 k < n) ∨ ∃ q, q < t ∧ (nSt kd mv q).1 ≤ q / 8
  | 0 => Or.inl fun k _ => hkl 0 (by omega)
  | t + 1 => by
    rcases nSt_val hkl hn h6 t with ih | ⟨q, hq, hq2⟩
    · by_cases hb : (nSt kd mv t).1 ≤ t / 8
      · exact Or.inr ⟨t, by omega, hb⟩
      · left
        have hst : nSt kd mv (t + 1) = nStep kd mv (nSt kd mv t) t := rfl
        rw [hst]
        rcases nStep_cases (kd := kd) (mv := mv) (nSt kd mv t) t with ⟨-, e⟩ | ⟨k', -, -, e⟩ | ⟨a, ha, -, e, -⟩
        · rw [e]; exact ih
        · rw [e]; exact ih
        · rw [e]
          intro k hk
          show updN _ _ _ k < n
          unfold updN
          by_cases hkn : k = (nSt kd mv t).1
          · rw [if_pos hkn]
            have h1 := ih (t / 8) (by omega)
            exact hkl a (h6 _ a (by omega) ha)
          · rw [if_neg hkn]
            have hk' : k < (nSt kd mv t).1 + 1 := hk
            exact ih k (by omega)
    · exact Or.inr ⟨q, by omega, hq2⟩
theorem nSt_inj : ∀ t k k', k < k' → k' < (nSt kd mv t).1 → (nSt kd mv t).2 k ≠ (nSt kd mv t).2 k'
  | 0, k, k', h1, h2 => by
    have h3 : k' < 1 := h2
    omega
  | t + 1, k, k', h1, h2 => by
    have ih := nSt_inj t
    have hst : nSt kd mv (t + 1) = nStep kd mv (nSt kd mv t) t := rfl
    rw [hst] at h2 ⊢
    rcases nStep_cases (kd := kd) (mv := mv) (nSt kd mv t) t with ⟨-, e⟩ | ⟨k9, -, -, e⟩ | ⟨a, ha, -, e, e2⟩
    · rw [e] at h2 ⊢; exact ih k k' h1 h2
    · rw [e] at h2 ⊢; exact ih k k' h1 h2
    · rw [e] at h2 ⊢
      have h2' : k' < (nSt kd mv t).1 + 1 := h2
      show updN _ _ _ k ≠ updN _ _ _ k'
      unfold updN
      rw [if_neg (by omega)]
      by_cases hkn : k' = (nSt kd mv t).1
      · rw [if_pos hkn]; exact e2 k (by omega)
      · rw [if_neg hkn]; exact ih k k' h1 (by omega)
theorem pigeon {O : Nat → Nat} : ∀ {m : Nat}, (∀ k, k < m → O k < n) → (∀ k k', k < k' → k' < m → O k ≠ O k') → m ≤ n := by
  intro m hv hi
  have key : ∀ j, j ≤ m → j ≤ cnt (fun c => @decide (∃ k, k < j ∧ O k = c) (Classical.propDecidable _)) n := by
    intro j
    induction j with
    | zero => intro _; exact Nat.zero_le _
    | succ j ih =>
      intro hj
      have h1 := ih (by omega)
      have h2 := cnt_lt (f := fun c => @decide (∃ k, k < j ∧ O k = c) (Classical.propDecidable _)) (g := fun c => @decide (∃ k, k < j + 1 ∧ O k = c) (Classical.propDecidable _)) (n := n)
        (fun p _ hp => by
          obtain ⟨k, hk, he⟩ := (@decide_eq_true_iff _ (Classical.propDecidable _)).mp hp
          exact (@decide_eq_true_iff _ (Classical.propDecidable _)).mpr ⟨k, by omega, he⟩)
        ⟨O j, hv j (by omega), (@decide_eq_true_iff _ (Classical.propDecidable _)).mpr ⟨j, by omega, rfl⟩, by
          refine (@decide_eq_false_iff_not _ (Classical.propDecidable _)).mpr ?_
          rintro ⟨k, hk, he⟩
          exact hi k j hk (by omega) he⟩
      omega
  exact Nat.le_trans (key m (Nat.le_refl m)) (cnt_le _ _)
end NP
section CN
variable {d n e m : Nat} {w : MWd} {Q : MRes → MWd → Prop} {A : Nat → Int32} {mv : Nat → Option Nat} {kd : Nat → Nat}
def nw38 (w : MWd) (e m s c : Nat) (x P L D : Int32) : MWd := sAI (sAI (sFI (sAI (sAI (sAI (sAI w (e + 4 + 8 * m) s x) (e + 5 + 8 * m) s P) (e + 6 + 8 * m) s L) (e + 7 + 8 * m) s D) 71 (e + 2 + 8 * m) (Int32.ofNat (s + 1))) 55 c (Int32.ofNat s)) 56 s (Int32.ofNat c)
theorem s_38o {c k : Nat} {P L : Int32} (G : Gr w) (hc : c < 100) (hk : k < 100) (h1 : wAI w 55 c = Int32.ofNat k) (h : Q (.inl (some (vI (Int32.ofNat k)))) w) :
    mR (d + 2) w 38 0 [some (vR (some (3, 0, 47))), some (vR (some (1, 0, e + 2 + 8 * m))), some (vI (Int32.ofNat c)), some (vI P), some (vI L), none] [] Q := by
  simp (disch := omega) only [e_38_0, e_38_1, e_38_4, e_38_5, e_38_7, e_38_10, e_38_11, e_38_12, e_38_13, e_38_16, e_38_17, e_38_18, e_38_19, e_38_22, e_38_23, e_38_24, e_38_27, e_38_28, e_38_29, e_38_30, e_38_32, e_38_35, e_38_37, e_38_39, e_38_42, e_38_44, e_38_46, e_38_49, e_38_50, e_38_53, e_38_54, e_38_56, e_38_57, e_38_58, e_38_61, e_38_63, e_38_64, e_38_65, e_38_66, e_38_69, e_38_70, e_38_71, i_lit, i_add, i_mul, i_m1, i_lt, i_le, i_eq, i_cl, i_in, i_ltN, i_Nlt, i_leN, i_Nle, i_eN, i_Ne, i_inN, i_l1, i_l2, mj_cpok, mj_nn, reduceCtorEq, lg_self, Nat.not_lt_zero, Nat.zero_le, Nat.reduceEqDiff, Nat.reduceLT, Nat.reduceLeDiff, true_or, or_true, false_or, or_false, not_true_eq_false, not_false_eq_true, true_imp_iff, false_imp_iff, and_self, wrd, u2, and_true, true_and, and_false, false_and, and_self, ite_true, ite_false, reduceIte, g_199 G, h1]
  (repeat' (first | (with_reducible refine And.intro ?_ ?_) | (with_reducible intro _)))
  all_goals first | omega | exact h
theorem s_38n {c s : Nat} {P L D : Int32} (G : Gr w) (he : e = 60 ∨ e = 94) (hm : m < 4) (hc : c < 100) (hs : s < 100) (h1 : wAI w 55 c = NN) (h2 : wFI w 71 (e + 2 + 8 * m) = Int32.ofNat s)
    (hD : P = NN ∧ D = Int32.ofNat 0 ∨ ∃ p dp : Nat, p < s ∧ dp < 100 ∧ P = Int32.ofNat p ∧ wAI w (e + 7 + 8 * m) p = Int32.ofNat dp ∧ D = Int32.ofNat (dp + 1))
    (h : Q (.inl (some (vI (Int32.ofNat s)))) (nw38 w e m s c (wAI w 50 c) P L D)) :
    mR (d + 2) w 38 0 [some (vR (some (3, 0, 47))), some (vR (some (1, 0, e + 2 + 8 * m))), some (vI (Int32.ofNat c)), some (vI P), some (vI L), none] [] Q := by
  have hgs := g_set G he
  have h0 : NN < Int32.ofNat 0 := (i_Nlt (by omega)).mpr trivial
  have n1 : ¬ c = s ∨ c = s := by omega
  rcases hD with ⟨rfl, rfl⟩ | ⟨p, dp, hp, hdp, rfl, h3, rfl⟩
  · simp (disch := omega) only [e_38_0, e_38_1, e_38_4, e_38_5, e_38_7, e_38_10, e_38_11, e_38_12, e_38_13, e_38_16, e_38_17, e_38_18, e_38_19, e_38_22, e_38_23, e_38_24, e_38_27, e_38_28, e_38_29, e_38_30, e_38_32, e_38_35, e_38_37, e_38_39, e_38_42, e_38_44, e_38_46, e_38_49, e_38_50, e_38_53, e_38_54, e_38_56, e_38_57, e_38_58, e_38_61, e_38_63, e_38_64, e_38_65, e_38_66, e_38_69, e_38_70, e_38_71, e_14_0, e_14_1, e_14_4, e_14_7, e_14_8, e_14_11, e_14_13, e_14_16, e_14_17, e_14_18, e_14_19, e_14_22, e_14_24, e_14_25, e_14_28, e_14_30, e_14_31, e_14_32, e_14_33, e_14_36, e_14_38, e_14_39, e_14_40, e_14_41, e_14_44, e_14_46, e_14_47, e_14_48, e_14_49, e_14_52, e_14_54, e_14_55, e_14_56, e_14_59, e_14_62, e_14_63, e_14_66, e_14_67, e_14_68, e_14_69, e_14_70, e_14_73, e_14_74, e_14_75, e_14_76, e_14_77, e_14_80, e_14_81, e_14_82, e_14_85, e_14_87, e_16_0, e_16_1, e_16_4, e_16_5, e_16_6, e_16_9, e_16_12, e_16_13, e_16_15, e_16_18, e_16_19, e_16_22, e_16_23, i_lit, i_add, i_mul, i_m1, i_lt, i_le, i_eq, i_cl, i_in, i_ltN, i_Nlt, i_leN, i_Nle, i_eN, i_Ne, i_inN, i_l1, i_l2, mj_cpok, mj_nn, reduceCtorEq, lg_self, Nat.not_lt_zero, Nat.zero_le, Nat.reduceEqDiff, Nat.reduceLT, Nat.reduceLeDiff, true_or, or_true, false_or, or_false, not_true_eq_false, not_false_eq_true, true_imp_iff, false_imp_iff, and_self, wrd, u2, and_true, true_and, and_false, false_and, and_self, ite_true, ite_false, reduceIte, mK_v, g_199 G, g_194 G, g_200 G, gs_65 hgs hm, gs_66 hgs hm, gs_67 hgs hm, gs_68 hgs hm, h1, h2]
    (repeat' (first | (with_reducible refine And.intro ?_ ?_) | (with_reducible intro _)))
    all_goals first | omega | exact h
  · have r1 : ¬ e + 7 + 8 * m = e + 6 + 8 * m := by omega
    have r2 : ¬ e + 7 + 8 * m = e + 5 + 8 * m := by omega
    have r3 : ¬ e + 7 + 8 * m = e + 4 + 8 * m := by omega
    simp (disch := omega) only [e_38_0, e_38_1, e_38_4, e_38_5, e_38_7, e_38_10, e_38_11, e_38_12, e_38_13, e_38_16, e_38_17, e_38_18, e_38_19, e_38_22, e_38_23, e_38_24, e_38_27, e_38_28, e_38_29, e_38_30, e_38_32, e_38_35, e_38_37, e_38_39, e_38_42, e_38_44, e_38_46, e_38_49, e_38_50, e_38_53, e_38_54, e_38_56, e_38_57, e_38_58, e_38_61, e_38_63, e_38_64, e_38_65, e_38_66, e_38_69, e_38_70, e_38_71, e_14_0, e_14_1, e_14_4, e_14_7, e_14_8, e_14_11, e_14_13, e_14_16, e_14_17, e_14_18, e_14_19, e_14_22, e_14_24, e_14_25, e_14_28, e_14_30, e_14_31, e_14_32, e_14_33, e_14_36, e_14_38, e_14_39, e_14_40, e_14_41, e_14_44, e_14_46, e_14_47, e_14_48, e_14_49, e_14_52, e_14_54, e_14_55, e_14_56, e_14_59, e_14_62, e_14_63, e_14_66, e_14_67, e_14_68, e_14_69, e_14_70, e_14_73, e_14_74, e_14_75, e_14_76, e_14_77, e_14_80, e_14_81, e_14_82, e_14_85, e_14_87, e_16_0, e_16_1, e_16_4, e_16_5, e_16_6, e_16_9, e_16_12, e_16_13, e_16_15, e_16_18, e_16_19, e_16_22, e_16_23, i_lit, i_add, i_mul, i_m1, i_lt, i_le, i_eq, i_cl, i_in, i_ltN, i_Nlt, i_leN, i_Nle, i_eN, i_Ne, i_inN, i_l1, i_l2, mj_cpok, mj_nn, reduceCtorEq, lg_self, Nat.not_lt_zero, Nat.zero_le, Nat.reduceEqDiff, Nat.reduceLT, Nat.reduceLeDiff, true_or, or_true, false_or, or_false, not_true_eq_false, not_false_eq_true, true_imp_iff, false_imp_iff, and_self, wrd, u2, and_true, true_and, and_false, false_and, and_self, ite_true, ite_false, reduceIte, mK_v, g_199 G, g_194 G, g_200 G, gs_65 hgs hm, gs_66 hgs hm, gs_67 hgs hm, gs_68 hgs hm, h1, h2, h3, r1, r2, r3]
    (repeat' (first | (with_reducible refine And.intro ?_ ?_) | (with_reducible intro _)))
    all_goals first | omega | exact h
end CN
