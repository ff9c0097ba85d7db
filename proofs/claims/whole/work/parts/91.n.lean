/-! addRule: the class, the useful places. -/
section CL
variable {d : Nat} {W : MWd} {r : Nat} {Q : MRes → MWd → Prop}
theorem c_61 {x1 x2 x3 : Int32} (hx : b01 x3) (G : Gr W) (hr : r < 12)
    (K : ∀ V, Fr (fun k a => a = 6 + 3 * r ∧ 322 ≤ k ∧ k ≤ 326) (fun a => a = 7 + 3 * r ∨ a = 8 + 3 * r) 0 0 W V → wFI V 322 (6 + 3 * r) = x1 → wFI V 323 (6 + 3 * r) = x2 → wFI V 324 (6 + 3 * r) = x3 → wFI V 325 (6 + 3 * r) = Int32.ofNat 0 → wFI V 326 (6 + 3 * r) = Int32.ofNat 0 → (∀ p, p < 30 → wAI V (7 + 3 * r) p = Int32.ofNat 0) → (∀ l, l < 8 → wAI V (8 + 3 * r) l = Int32.ofNat 0) → Q (.inl none) V) :
    mR d W 61 0 [some (vR (some (5, 0, 6 + 3 * r))), some (vI x1), some (vI x2), some (vI x3), none] [] Q := by
  have l2 : ∀ (U : MWd), Gr U → (∀ V, Fr (fun _ _ => False) (fun a => a = 8 + 3 * r) 0 0 U V → (∀ l, l < 8 → wAI V (8 + 3 * r) l = Int32.ofNat 0) → Q (.inl none) V) → ∀ (f k : Nat) (V : MWd), k + f = 8 → Fr (fun _ _ => False) (fun a => a = 8 + 3 * r) 0 0 U V → (∀ l, l < k → wAI V (8 + 3 * r) l = Int32.ofNat 0) →
      mR d V 61 52 [some (vR (some (5, 0, 6 + 3 * r))), some (vI x1), some (vI x2), some (vI x3), some (vI (Int32.ofNat k))] [] Q := by
    intro U GU K2 f
    induction f with
    | zero =>
      intro k V hk hF hV
      have e : k = 8 := by omega
      subst e
      have k0 := K2 V hF hV
      rw [e_61_52]
      simp (disch := omega) only [e_61_54, e_61_56, e_61_73, i_lit, i_add, i_mul, i_m1, i_lt, i_le, i_eq, i_cl, i_in, i_ltN, i_Nlt, i_leN, i_Nle, i_eN, i_Ne, i_inN, i_l1, i_l2, mj_cpok, mj_nn, reduceCtorEq, lg_self, Nat.not_lt_zero, Nat.zero_le, Nat.reduceEqDiff, Nat.reduceLT, Nat.reduceLeDiff, true_or, or_true, false_or, or_false, not_true_eq_false, not_false_eq_true, true_imp_iff, false_imp_iff, and_self, wrd, u2, and_true, true_and, and_false, false_and, and_self, ite_true, ite_false, reduceIte]
      (repeat' (first | (with_reducible refine And.intro ?_ ?_) | (with_reducible intro _)))
      all_goals first | omega | exact k0
    | succ f ih =>
      intro k V hk hF hV
      have GV := Fr_Gr hF GU
      have nn := ih (k + 1) (sAI V (8 + 3 * r) k (Int32.ofNat 0)) (by omega) (Fr_sAI hF (Or.inl rfl)) (fun l hl => by
        simp only [mj_cpok, mj_nn, reduceCtorEq, lg_self, Nat.not_lt_zero, Nat.zero_le, Nat.reduceEqDiff, Nat.reduceLT, Nat.reduceLeDiff, true_or, or_true, false_or, or_false, not_true_eq_false, not_false_eq_true, true_imp_iff, false_imp_iff, and_self, wrd, u2, and_true, true_and, and_false, false_and, and_self, ite_true, ite_false, reduceIte]
        by_cases c : l = k
        · rw [if_pos c]
        · rw [if_neg c]; exact hV l (by omega))
      rw [e_61_52]
      simp (disch := omega) only [e_61_54, e_61_56, e_61_59, e_61_60, e_61_63, e_61_65, e_61_66, e_61_67, e_61_70, i_lit, i_add, i_mul, i_m1, i_lt, i_le, i_eq, i_cl, i_in, i_ltN, i_Nlt, i_leN, i_Nle, i_eN, i_Ne, i_inN, i_l1, i_l2, mj_cpok, mj_nn, reduceCtorEq, lg_self, Nat.not_lt_zero, Nat.zero_le, Nat.reduceEqDiff, Nat.reduceLT, Nat.reduceLeDiff, true_or, or_true, false_or, or_false, not_true_eq_false, not_false_eq_true, true_imp_iff, false_imp_iff, and_self, wrd, u2, and_true, true_and, and_false, false_and, and_self, ite_true, ite_false, reduceIte, g_321 GV hr]
      (repeat' (first | (with_reducible refine And.intro ?_ ?_) | (with_reducible intro _)))
      all_goals first | omega | exact nn
  have l1 : ∀ (U : MWd), Gr U → (∀ V, Fr (fun _ _ => False) (fun a => a = 7 + 3 * r) 0 0 U V → (∀ l, l < 30 → wAI V (7 + 3 * r) l = Int32.ofNat 0) → mR d V 61 52 [some (vR (some (5, 0, 6 + 3 * r))), some (vI x1), some (vI x2), some (vI x3), some (vI (Int32.ofNat 0))] [] Q) → ∀ (f k : Nat) (V : MWd), k + f = 30 → Fr (fun _ _ => False) (fun a => a = 7 + 3 * r) 0 0 U V → (∀ l, l < k → wAI V (7 + 3 * r) l = Int32.ofNat 0) →
      mR d V 61 28 [some (vR (some (5, 0, 6 + 3 * r))), some (vI x1), some (vI x2), some (vI x3), some (vI (Int32.ofNat k))] [] Q := by
    intro U GU K2 f
    induction f with
    | zero =>
      intro k V hk hF hV
      have e : k = 30 := by omega
      subst e
      have k0 := K2 V hF hV
      rw [e_61_28]
      simp (disch := omega) only [e_61_30, e_61_32, e_61_49, e_61_50, i_lit, i_add, i_mul, i_m1, i_lt, i_le, i_eq, i_cl, i_in, i_ltN, i_Nlt, i_leN, i_Nle, i_eN, i_Ne, i_inN, i_l1, i_l2, mj_cpok, mj_nn, reduceCtorEq, lg_self, Nat.not_lt_zero, Nat.zero_le, Nat.reduceEqDiff, Nat.reduceLT, Nat.reduceLeDiff, true_or, or_true, false_or, or_false, not_true_eq_false, not_false_eq_true, true_imp_iff, false_imp_iff, and_self, wrd, u2, and_true, true_and, and_false, false_and, and_self, ite_true, ite_false, reduceIte]
      (repeat' (first | (with_reducible refine And.intro ?_ ?_) | (with_reducible intro _)))
      all_goals first | omega | exact k0
    | succ f ih =>
      intro k V hk hF hV
      have GV := Fr_Gr hF GU
      have nn := ih (k + 1) (sAI V (7 + 3 * r) k (Int32.ofNat 0)) (by omega) (Fr_sAI hF (Or.inl rfl)) (fun l hl => by
        simp only [mj_cpok, mj_nn, reduceCtorEq, lg_self, Nat.not_lt_zero, Nat.zero_le, Nat.reduceEqDiff, Nat.reduceLT, Nat.reduceLeDiff, true_or, or_true, false_or, or_false, not_true_eq_false, not_false_eq_true, true_imp_iff, false_imp_iff, and_self, wrd, u2, and_true, true_and, and_false, false_and, and_self, ite_true, ite_false, reduceIte]
        by_cases c : l = k
        · rw [if_pos c]
        · rw [if_neg c]; exact hV l (by omega))
      rw [e_61_28]
      simp (disch := omega) only [e_61_30, e_61_32, e_61_35, e_61_36, e_61_39, e_61_41, e_61_42, e_61_43, e_61_46, i_lit, i_add, i_mul, i_m1, i_lt, i_le, i_eq, i_cl, i_in, i_ltN, i_Nlt, i_leN, i_Nle, i_eN, i_Ne, i_inN, i_l1, i_l2, mj_cpok, mj_nn, reduceCtorEq, lg_self, Nat.not_lt_zero, Nat.zero_le, Nat.reduceEqDiff, Nat.reduceLT, Nat.reduceLeDiff, true_or, or_true, false_or, or_false, not_true_eq_false, not_false_eq_true, true_imp_iff, false_imp_iff, and_self, wrd, u2, and_true, true_and, and_false, false_and, and_self, ite_true, ite_false, reduceIte, g_320 GV hr]
      (repeat' (first | (with_reducible refine And.intro ?_ ?_) | (with_reducible intro _)))
      all_goals first | omega | exact nn
  have F1 : Fr (fun k a => a = 6 + 3 * r ∧ 322 ≤ k ∧ k ≤ 326) (fun a => a = 7 + 3 * r ∨ a = 8 + 3 * r) 0 0 W (sFI (sFI (sFI (sFI (sFI W 322 (6 + 3 * r) x1) 323 (6 + 3 * r) x2) 324 (6 + 3 * r) x3) 325 (6 + 3 * r) (Int32.ofNat 0)) 326 (6 + 3 * r) (Int32.ofNat 0)) := Fr_sFI (Fr_sFI (Fr_sFI (Fr_sFI (Fr_sFI Fr_refl (by omega)) (by omega)) (by omega)) (by omega)) (by omega)
  have q2 : wFI (sFI (sFI (sFI (sFI (sFI W 322 (6 + 3 * r) x1) 323 (6 + 3 * r) x2) 324 (6 + 3 * r) x3) 325 (6 + 3 * r) (Int32.ofNat 0)) 326 (6 + 3 * r) (Int32.ofNat 0)) 322 (6 + 3 * r) = x1 := by simp only [mj_cpok, mj_nn, reduceCtorEq, lg_self, Nat.not_lt_zero, Nat.zero_le, Nat.reduceEqDiff, Nat.reduceLT, Nat.reduceLeDiff, true_or, or_true, false_or, or_false, not_true_eq_false, not_false_eq_true, true_imp_iff, false_imp_iff, and_self, wrd, u2, and_true, true_and, and_false, false_and, and_self, ite_true, ite_false, reduceIte]
  have q3 : wFI (sFI (sFI (sFI (sFI (sFI W 322 (6 + 3 * r) x1) 323 (6 + 3 * r) x2) 324 (6 + 3 * r) x3) 325 (6 + 3 * r) (Int32.ofNat 0)) 326 (6 + 3 * r) (Int32.ofNat 0)) 323 (6 + 3 * r) = x2 := by simp only [mj_cpok, mj_nn, reduceCtorEq, lg_self, Nat.not_lt_zero, Nat.zero_le, Nat.reduceEqDiff, Nat.reduceLT, Nat.reduceLeDiff, true_or, or_true, false_or, or_false, not_true_eq_false, not_false_eq_true, true_imp_iff, false_imp_iff, and_self, wrd, u2, and_true, true_and, and_false, false_and, and_self, ite_true, ite_false, reduceIte]
  have q4 : wFI (sFI (sFI (sFI (sFI (sFI W 322 (6 + 3 * r) x1) 323 (6 + 3 * r) x2) 324 (6 + 3 * r) x3) 325 (6 + 3 * r) (Int32.ofNat 0)) 326 (6 + 3 * r) (Int32.ofNat 0)) 324 (6 + 3 * r) = x3 := by simp only [mj_cpok, mj_nn, reduceCtorEq, lg_self, Nat.not_lt_zero, Nat.zero_le, Nat.reduceEqDiff, Nat.reduceLT, Nat.reduceLeDiff, true_or, or_true, false_or, or_false, not_true_eq_false, not_false_eq_true, true_imp_iff, false_imp_iff, and_self, wrd, u2, and_true, true_and, and_false, false_and, and_self, ite_true, ite_false, reduceIte]
  have q5 : wFI (sFI (sFI (sFI (sFI (sFI W 322 (6 + 3 * r) x1) 323 (6 + 3 * r) x2) 324 (6 + 3 * r) x3) 325 (6 + 3 * r) (Int32.ofNat 0)) 326 (6 + 3 * r) (Int32.ofNat 0)) 325 (6 + 3 * r) = Int32.ofNat 0 := by simp only [mj_cpok, mj_nn, reduceCtorEq, lg_self, Nat.not_lt_zero, Nat.zero_le, Nat.reduceEqDiff, Nat.reduceLT, Nat.reduceLeDiff, true_or, or_true, false_or, or_false, not_true_eq_false, not_false_eq_true, true_imp_iff, false_imp_iff, and_self, wrd, u2, and_true, true_and, and_false, false_and, and_self, ite_true, ite_false, reduceIte]
  have q6 : wFI (sFI (sFI (sFI (sFI (sFI W 322 (6 + 3 * r) x1) 323 (6 + 3 * r) x2) 324 (6 + 3 * r) x3) 325 (6 + 3 * r) (Int32.ofNat 0)) 326 (6 + 3 * r) (Int32.ofNat 0)) 326 (6 + 3 * r) = Int32.ofNat 0 := by simp only [mj_cpok, mj_nn, reduceCtorEq, lg_self, Nat.not_lt_zero, Nat.zero_le, Nat.reduceEqDiff, Nat.reduceLT, Nat.reduceLeDiff, true_or, or_true, false_or, or_false, not_true_eq_false, not_false_eq_true, true_imp_iff, false_imp_iff, and_self, wrd, u2, and_true, true_and, and_false, false_and, and_self, ite_true, ite_false, reduceIte]
  have hx' : x3 = Int32.ofNat 0 ∨ x3 = Int32.ofNat 1 := hx
  simp (disch := omega) only [e_61_0, e_61_1, e_61_2, e_61_5, e_61_6, e_61_7, e_61_10, e_61_11, e_61_12, e_61_15, e_61_16, e_61_17, e_61_20, e_61_21, e_61_22, e_61_25, e_61_26, i_lit, i_add, i_mul, i_m1, i_lt, i_le, i_eq, i_cl, i_in, i_ltN, i_Nlt, i_leN, i_Nle, i_eN, i_Ne, i_inN, i_l1, i_l2, mj_cpok, mj_nn, reduceCtorEq, lg_self, Nat.not_lt_zero, Nat.zero_le, Nat.reduceEqDiff, Nat.reduceLT, Nat.reduceLeDiff, true_or, or_true, false_or, or_false, not_true_eq_false, not_false_eq_true, true_imp_iff, false_imp_iff, and_self, wrd, u2, and_true, true_and, and_false, false_and, and_self, ite_true, ite_false, reduceIte]
  refine ⟨hx', ?_⟩
  generalize sFI (sFI (sFI (sFI (sFI W 322 (6 + 3 * r) x1) 323 (6 + 3 * r) x2) 324 (6 + 3 * r) x3) 325 (6 + 3 * r) (Int32.ofNat 0)) 326 (6 + 3 * r) (Int32.ofNat 0) = W1 at F1 q2 q3 q4 q5 q6 ⊢
  have G1 := Fr_Gr F1 G
  refine l1 W1 G1 (fun V hV h7 => ?_) 30 0 W1 rfl Fr_refl (fun l hl => absurd hl (Nat.not_lt_zero l))
  refine l2 V (Fr_Gr hV G1) (fun U hU h8 => ?_) 8 0 V rfl Fr_refl (fun l hl => absurd hl (Nat.not_lt_zero l))
  refine K U (Fr_trans (x := 0) (y := 0) F1 (Fr_trans (x := 0) (y := 0) (Fr_weak hV (fun _ _ q => q.elim) (fun _ q => Or.inl q) (Nat.le_refl _) (Nat.le_refl _)) (Fr_weak hU (fun _ _ q => q.elim) (fun _ q => Or.inr q) (Nat.le_refl _) (Nat.le_refl _)))) ?_ ?_ ?_ ?_ ?_ (fun p hp => by rw [Fr_ai hU (by omega) (by omega)]; exact h7 p hp) h8
  · exact (Fr_fi hU (by omega) (fun q => q)).trans ((Fr_fi hV (by omega) (fun q => q)).trans q2)
  · exact (Fr_fi hU (by omega) (fun q => q)).trans ((Fr_fi hV (by omega) (fun q => q)).trans q3)
  · exact (Fr_fi hU (by omega) (fun q => q)).trans ((Fr_fi hV (by omega) (fun q => q)).trans q4)
  · exact (Fr_fi hU (by omega) (fun q => q)).trans ((Fr_fi hV (by omega) (fun q => q)).trans q5)
  · exact (Fr_fi hU (by omega) (fun q => q)).trans ((Fr_fi hV (by omega) (fun q => q)).trans q6)
/-- those of M that X follows -/
theorem c_67 {X M : Int32} (G : Gr W) (hr : r < 12) (K : ∀ y : Int32, (∀ q, q < 32 → (bt y q = true ↔ q < 30 ∧ bt M q = true ∧ ∃ s, s < 32 ∧ bt (wAI W (7 + 3 * r) q) s = true ∧ bt X s = true)) → Q (.inl (some (vI y))) W) :
    mR d W 67 0 [some (vR (some (5, 0, 6 + 3 * r))), some (vI X), some (vI M), none, none] [] Q := by
  have loop : ∀ (f k : Nat) (y : Int32), k + f = 30 → (∀ q, q < 32 → (bt y q = true ↔ q < k ∧ bt M q = true ∧ ∃ s, s < 32 ∧ bt (wAI W (7 + 3 * r) q) s = true ∧ bt X s = true)) →
      mR d W 67 5 [some (vR (some (5, 0, 6 + 3 * r))), some (vI X), some (vI M), some (vI y), some (vI (Int32.ofNat k))] [] Q := by
    intro f
    induction f with
    | zero =>
      intro k y hk hy
      have e : k = 30 := by omega
      subst e
      have k0 := K y hy
      rw [e_67_5]
      simp (disch := omega) only [e_67_7, e_67_9, e_67_46, e_67_47, i_lit, i_add, i_mul, i_m1, i_lt, i_le, i_eq, i_cl, i_in, i_ltN, i_Nlt, i_leN, i_Nle, i_eN, i_Ne, i_inN, i_l1, i_l2, mj_cpok, mj_nn, reduceCtorEq, lg_self, Nat.not_lt_zero, Nat.zero_le, Nat.reduceEqDiff, Nat.reduceLT, Nat.reduceLeDiff, true_or, or_true, false_or, or_false, not_true_eq_false, not_false_eq_true, true_imp_iff, false_imp_iff, and_self, wrd, u2, and_true, true_and, and_false, false_and, and_self, ite_true, ite_false, reduceIte]
      (repeat' (first | (with_reducible refine And.intro ?_ ?_) | (with_reducible intro _)))
      all_goals first | omega | exact k0
    | succ f ih =>
      intro k y hk hy
      rw [e_67_5]
      by_cases c : bt M k = true
      · by_cases c2 : wAI W (7 + 3 * r) k &&& X = Int32.ofNat 0
        · have nn := ih (k + 1) y (by omega) (fun q hq => by
            rw [hy q hq]
            refine ⟨fun h => ⟨by omega, h.2⟩, fun h => ⟨?_, h.2⟩⟩
            rcases Nat.lt_or_ge q k with h' | h'
            · exact h'
            · have e : q = k := by omega
              subst e
              obtain ⟨-, -, s, hs, h1, h2⟩ := h
              have := (ts_0.mp c2) s hs
              rw [bt_and, h1, h2] at this; cases this)
          simp (disch := omega) only [e_67_7, e_67_9, e_67_12, e_67_13, e_67_15, e_67_16, e_67_17, e_67_18, e_67_21, e_67_22, e_67_25, e_67_27, e_67_28, e_67_29, e_67_30, e_67_40, e_67_43, i_lit, i_add, i_mul, i_m1, i_lt, i_le, i_eq, i_cl, i_in, i_ltN, i_Nlt, i_leN, i_Nle, i_eN, i_Ne, i_inN, i_l1, i_l2, mj_cpok, mj_nn, reduceCtorEq, lg_self, Nat.not_lt_zero, Nat.zero_le, Nat.reduceEqDiff, Nat.reduceLT, Nat.reduceLeDiff, true_or, or_true, false_or, or_false, not_true_eq_false, not_false_eq_true, true_imp_iff, false_imp_iff, and_self, wrd, u2, and_true, true_and, and_false, false_and, and_self, ite_true, ite_false, reduceIte, ts_u0, c, c2, g_320 G hr, Bool.false_eq_true, Bool.true_eq_false]
          (repeat' (first | (with_reducible refine And.intro ?_ ?_) | (with_reducible intro _)))
          all_goals first | omega | exact nn
        · have nn := ih (k + 1) (y ||| bit1 k) (by omega) (fun q hq => by
            rw [bt_or, bit1_bt (by omega), Bool.or_eq_true, decide_eq_true_eq, hy q hq]
            refine ⟨fun h => ?_, fun h => ?_⟩
            · rcases h with h | h
              · exact ⟨by omega, h.2⟩
              · subst h
                refine ⟨by omega, c, ?_⟩
                refine Classical.byContradiction fun hn => c2 (ts_0.mpr fun s hs => ?_)
                rw [bt_and]
                cases h1 : bt (wAI W (7 + 3 * r) k) s
                · rfl
                · cases h2 : bt X s
                  · rfl
                  · exact absurd ⟨s, hs, h1, h2⟩ hn
            · by_cases h' : q < k
              · exact Or.inl ⟨h', h.2⟩
              · exact Or.inr (by omega))
          unfold bit1 at nn
          simp (disch := omega) only [e_67_7, e_67_9, e_67_12, e_67_13, e_67_15, e_67_16, e_67_17, e_67_18, e_67_21, e_67_22, e_67_25, e_67_27, e_67_28, e_67_29, e_67_30, e_67_33, e_67_34, e_67_35, e_67_37, e_67_38, e_67_39, e_67_40, e_67_43, i_lit, i_add, i_mul, i_m1, i_lt, i_le, i_eq, i_cl, i_in, i_ltN, i_Nlt, i_leN, i_Nle, i_eN, i_Ne, i_inN, i_l1, i_l2, mj_cpok, mj_nn, reduceCtorEq, lg_self, Nat.not_lt_zero, Nat.zero_le, Nat.reduceEqDiff, Nat.reduceLT, Nat.reduceLeDiff, true_or, or_true, false_or, or_false, not_true_eq_false, not_false_eq_true, true_imp_iff, false_imp_iff, and_self, wrd, u2, and_true, true_and, and_false, false_and, and_self, ite_true, ite_false, reduceIte, ts_u0, c, c2, g_320 G hr, Bool.false_eq_true, Bool.true_eq_false]
          (repeat' (first | (with_reducible refine And.intro ?_ ?_) | (with_reducible intro _)))
          all_goals first | omega | exact nn
      · have c' : bt M k = false := Bool.eq_false_iff.mpr c
        have nn := ih (k + 1) y (by omega) (fun q hq => by
          rw [hy q hq]
          refine ⟨fun h => ⟨by omega, h.2⟩, fun h => ⟨?_, h.2⟩⟩
          rcases Nat.lt_or_ge q k with h' | h'
          · exact h'
          · have e : q = k := by omega
            subst e
            exact absurd h.2.1 c)
        simp (disch := omega) only [e_67_7, e_67_9, e_67_12, e_67_13, e_67_15, e_67_16, e_67_17, e_67_18, e_67_40, e_67_43, i_lit, i_add, i_mul, i_m1, i_lt, i_le, i_eq, i_cl, i_in, i_ltN, i_Nlt, i_leN, i_Nle, i_eN, i_Ne, i_inN, i_l1, i_l2, mj_cpok, mj_nn, reduceCtorEq, lg_self, Nat.not_lt_zero, Nat.zero_le, Nat.reduceEqDiff, Nat.reduceLT, Nat.reduceLeDiff, true_or, or_true, false_or, or_false, not_true_eq_false, not_false_eq_true, true_imp_iff, false_imp_iff, and_self, wrd, u2, and_true, true_and, and_false, false_and, and_self, ite_true, ite_false, reduceIte, ts_u0, c', Bool.false_eq_true, Bool.true_eq_false]
        (repeat' (first | (with_reducible refine And.intro ?_ ?_) | (with_reducible intro _)))
        all_goals first | omega | exact nn
  have nn := loop 30 0 (Int32.ofNat 0) rfl (fun q hq => by rw [bt_0]; exact ⟨fun h => (by cases h), fun h => absurd h.1 (Nat.not_lt_zero q)⟩)
  simp (disch := omega) only [e_67_0, e_67_1, e_67_2, e_67_3, i_lit, i_add, i_mul, i_m1, i_lt, i_le, i_eq, i_cl, i_in, i_ltN, i_Nlt, i_leN, i_Nle, i_eN, i_Ne, i_inN, i_l1, i_l2, mj_cpok, mj_nn, reduceCtorEq, lg_self, Nat.not_lt_zero, Nat.zero_le, Nat.reduceEqDiff, Nat.reduceLT, Nat.reduceLeDiff, true_or, or_true, false_or, or_false, not_true_eq_false, not_false_eq_true, true_imp_iff, false_imp_iff, and_self, wrd, u2, and_true, true_and, and_false, false_and, and_self, ite_true, ite_false, reduceIte]
  exact nn
end CL
