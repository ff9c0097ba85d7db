/-! addRule: the class's reader, places and joins. -/
section CL
variable {d : Nat} {W : MWd} {S : Nat → Nat} {i r : Nat} {Q : MRes → MWd → Prop}
/-- a new place -/
theorem c_62l {np : Nat} {m : Int32} (G : Gr W) (hr : r < 12) (hn : np < 30) {x2 : Int32}
    (K : ∀ V, Fr (fun _ _ => False) (fun a => a = 8 + 3 * r) 0 0 W V → (∀ l, l < 8 → wAI V (8 + 3 * r) l = if bt m l = true then wAI W (8 + 3 * r) l ||| bit1 np else wAI W (8 + 3 * r) l) → Q (.inl (some (vI (bit1 np)))) V) :
    ∀ (f k : Nat) (V : MWd), k + f = 8 → Fr (fun _ _ => False) (fun a => a = 8 + 3 * r) 0 0 W V → (∀ l, l < 8 → wAI V (8 + 3 * r) l = if l < k ∧ bt m l = true then wAI W (8 + 3 * r) l ||| bit1 np else wAI W (8 + 3 * r) l) →
      mR d V 62 19 [some (vR (some (5, 0, 6 + 3 * r))), some (vI m), some (vI (bit1 np)), some (vI (Int32.ofNat k))] [] Q := by
  intro f
  induction f with
  | zero =>
    intro k V hk hF hV
    have e : k = 8 := by omega
    subst e
    have k0 := K V hF (fun l hl => by rw [hV l hl]; simp only [hl, true_and])
    rw [e_62_19]
    simp (disch := omega) only [e_62_20, e_62_22, e_62_49, e_62_50, i_lit, i_add, i_mul, i_m1, i_lt, i_le, i_eq, i_cl, i_in, i_ltN, i_Nlt, i_leN, i_Nle, i_eN, i_Ne, i_inN, i_l1, i_l2, mj_cpok, mj_nn, reduceCtorEq, lg_self, Nat.not_lt_zero, Nat.zero_le, Nat.reduceEqDiff, Nat.reduceLT, Nat.reduceLeDiff, true_or, or_true, false_or, or_false, not_true_eq_false, not_false_eq_true, true_imp_iff, false_imp_iff, and_self, wrd, u2, and_true, true_and, and_false, false_and, and_self, ite_true, ite_false, reduceIte]
    (repeat' (first | (with_reducible refine And.intro ?_ ?_) | (with_reducible intro _)))
    all_goals first | omega | exact k0
  | succ f ih =>
    intro k V hk hF hV
    have G' := Fr_Gr hF G
    rw [e_62_19]
    by_cases c : bt m k = true
    · have nn := ih (k + 1) (sAI V (8 + 3 * r) k (wAI V (8 + 3 * r) k ||| bit1 np)) (by omega) (Fr_sAI hF (Or.inl rfl)) (fun l hl => by
        simp only [mj_cpok, mj_nn, reduceCtorEq, lg_self, Nat.not_lt_zero, Nat.zero_le, Nat.reduceEqDiff, Nat.reduceLT, Nat.reduceLeDiff, true_or, or_true, false_or, or_false, not_true_eq_false, not_false_eq_true, true_imp_iff, false_imp_iff, and_self, wrd, u2, and_true, true_and, and_false, false_and, and_self, ite_true, ite_false, reduceIte]
        by_cases h : l = k
        · subst h
          rw [if_pos rfl, if_pos ⟨Nat.lt_succ_self _, c⟩, hV l hl, if_neg (by omega)]
        · rw [if_neg h, hV l hl]
          by_cases h' : l < k ∧ bt m l = true
          · rw [if_pos h', if_pos ⟨by omega, h'.2⟩]
          · rw [if_neg h', if_neg (fun q => h' ⟨by omega, q.2⟩)])
      simp (disch := omega) only [e_62_20, e_62_22, e_62_25, e_62_26, e_62_27, e_62_28, e_62_29, e_62_30, e_62_33, e_62_34, e_62_37, e_62_38, e_62_39, e_62_40, e_62_41, e_62_42, e_62_43, e_62_46, i_lit, i_add, i_mul, i_m1, i_lt, i_le, i_eq, i_cl, i_in, i_ltN, i_Nlt, i_leN, i_Nle, i_eN, i_Ne, i_inN, i_l1, i_l2, mj_cpok, mj_nn, reduceCtorEq, lg_self, Nat.not_lt_zero, Nat.zero_le, Nat.reduceEqDiff, Nat.reduceLT, Nat.reduceLeDiff, true_or, or_true, false_or, or_false, not_true_eq_false, not_false_eq_true, true_imp_iff, false_imp_iff, and_self, wrd, u2, and_true, true_and, and_false, false_and, and_self, ite_true, ite_false, reduceIte, ts_u0, c, g_321 G' hr, Bool.false_eq_true, Bool.true_eq_false]
      (repeat' (first | (with_reducible refine And.intro ?_ ?_) | (with_reducible intro _)))
      all_goals first | omega | exact nn
    · have c' : bt m k = false := Bool.eq_false_iff.mpr c
      have nn := ih (k + 1) V (by omega) hF (fun l hl => by
        rw [hV l hl]
        by_cases h' : l < k ∧ bt m l = true
        · rw [if_pos h', if_pos ⟨by omega, h'.2⟩]
        · rw [if_neg h', if_neg (fun q => h' ⟨by
            rcases Nat.lt_or_ge l k with h | h
            · exact h
            · exact absurd (show bt m k = true from (show l = k by omega) ▸ q.2) c, q.2⟩)])
      simp (disch := omega) only [e_62_20, e_62_22, e_62_25, e_62_26, e_62_27, e_62_28, e_62_29, e_62_30, e_62_43, e_62_46, i_lit, i_add, i_mul, i_m1, i_lt, i_le, i_eq, i_cl, i_in, i_ltN, i_Nlt, i_leN, i_Nle, i_eN, i_Ne, i_inN, i_l1, i_l2, mj_cpok, mj_nn, reduceCtorEq, lg_self, Nat.not_lt_zero, Nat.zero_le, Nat.reduceEqDiff, Nat.reduceLT, Nat.reduceLeDiff, true_or, or_true, false_or, or_false, not_true_eq_false, not_false_eq_true, true_imp_iff, false_imp_iff, and_self, wrd, u2, and_true, true_and, and_false, false_and, and_self, ite_true, ite_false, reduceIte, ts_u0, c', Bool.false_eq_true, Bool.true_eq_false]
      (repeat' (first | (with_reducible refine And.intro ?_ ?_) | (with_reducible intro _)))
      all_goals first | omega | exact nn
theorem c_62 {np : Nat} {m : Int32} (G : Gr W) (hr : r < 12) (hn : np < 30) (h326 : wFI W 326 (6 + 3 * r) = Int32.ofNat np)
    (K : ∀ V, Fr (fun k a => k = 326 ∧ a = 6 + 3 * r) (fun a => a = 8 + 3 * r) 0 0 W V → wFI V 326 (6 + 3 * r) = Int32.ofNat (np + 1) → (∀ l, l < 8 → wAI V (8 + 3 * r) l = if bt m l = true then wAI W (8 + 3 * r) l ||| bit1 np else wAI W (8 + 3 * r) l) → Q (.inl (some (vI (bit1 np)))) V) :
    mR d W 62 0 [some (vR (some (5, 0, 6 + 3 * r))), some (vI m), none, none] [] Q := by
  have hF0 : Fr (fun k a => k = 326 ∧ a = 6 + 3 * r) (fun a => a = 8 + 3 * r) 0 0 W (sFI W 326 (6 + 3 * r) (Int32.ofNat (np + 1))) := Fr_sFI Fr_refl (Or.inl ⟨rfl, rfl⟩)
  have e0 : wAI (sFI W 326 (6 + 3 * r) (Int32.ofNat (np + 1))) = wAI W := rfl
  have nn := c_62l (d := d) (W := sFI W 326 (6 + 3 * r) (Int32.ofNat (np + 1))) (np := np) (m := m) (r := r) (Q := Q) (Fr_Gr hF0 G) hr hn (x2 := 0) (fun V hF hV => K V (Fr_weak (Fr_trans hF0 (Fr_weak hF (fun _ _ q => q.elim) (fun _ q => q) (Nat.le_refl _) (Nat.le_refl _))) (fun _ _ q => q) (fun _ q => q) (Nat.le_refl _) (Nat.le_refl _)) (by
      rw [Fr_fi hF (by omega) (fun q => q)]; simp only [mj_cpok, mj_nn, reduceCtorEq, lg_self, Nat.not_lt_zero, Nat.zero_le, Nat.reduceEqDiff, Nat.reduceLT, Nat.reduceLeDiff, true_or, or_true, false_or, or_false, not_true_eq_false, not_false_eq_true, true_imp_iff, false_imp_iff, and_self, wrd, u2, and_true, true_and, and_false, false_and, and_self, ite_true, ite_false, reduceIte]) (by rw [e0] at hV; exact hV)) 8 0 _ rfl Fr_refl (fun l hl => by rw [if_neg (by omega)])
  unfold bit1 at nn
  simp (disch := omega) only [e_62_0, e_62_1, e_62_2, e_62_5, e_62_6, e_62_7, e_62_8, e_62_9, e_62_12, e_62_13, e_62_14, e_62_17, e_62_18, i_lit, i_add, i_mul, i_m1, i_lt, i_le, i_eq, i_cl, i_in, i_ltN, i_Nlt, i_leN, i_Nle, i_eN, i_Ne, i_inN, i_l1, i_l2, mj_cpok, mj_nn, reduceCtorEq, lg_self, Nat.not_lt_zero, Nat.zero_le, Nat.reduceEqDiff, Nat.reduceLT, Nat.reduceLeDiff, true_or, or_true, false_or, or_false, not_true_eq_false, not_false_eq_true, true_imp_iff, false_imp_iff, and_self, wrd, u2, and_true, true_and, and_false, false_and, and_self, ite_true, ite_false, reduceIte, h326]
  exact nn
/-- what may follow -/
theorem c_65l {l f : Int32} (G : Gr W) (hr : r < 12) (K : ∀ V, Fr (fun _ _ => False) (fun a => a = 7 + 3 * r) 0 0 W V → (∀ p, p < 30 → wAI V (7 + 3 * r) p = lkF (wAI W (7 + 3 * r)) l f p) → Q (.inl none) V) :
    ∀ (g k : Nat) (V : MWd), k + g = 30 → Fr (fun _ _ => False) (fun a => a = 7 + 3 * r) 0 0 W V → (∀ p, p < 30 → wAI V (7 + 3 * r) p = if p < k then lkF (wAI W (7 + 3 * r)) l f p else wAI W (7 + 3 * r) p) →
      mR d V 65 2 [some (vR (some (5, 0, 6 + 3 * r))), some (vI l), some (vI f), some (vI (Int32.ofNat k))] [] Q := by
  intro g
  induction g with
  | zero =>
    intro k V hk hF hV
    have e : k = 30 := by omega
    subst e
    have k0 := K V hF (fun p hp => by rw [hV p hp, if_pos hp])
    rw [e_65_2]
    simp (disch := omega) only [e_65_3, e_65_5, e_65_32, i_lit, i_add, i_mul, i_m1, i_lt, i_le, i_eq, i_cl, i_in, i_ltN, i_Nlt, i_leN, i_Nle, i_eN, i_Ne, i_inN, i_l1, i_l2, mj_cpok, mj_nn, reduceCtorEq, lg_self, Nat.not_lt_zero, Nat.zero_le, Nat.reduceEqDiff, Nat.reduceLT, Nat.reduceLeDiff, true_or, or_true, false_or, or_false, not_true_eq_false, not_false_eq_true, true_imp_iff, false_imp_iff, and_self, wrd, u2, and_true, true_and, and_false, false_and, and_self, ite_true, ite_false, reduceIte]
    (repeat' (first | (with_reducible refine And.intro ?_ ?_) | (with_reducible intro _)))
    all_goals first | omega | exact k0
  | succ g ih =>
    intro k V hk hF hV
    have G' := Fr_Gr hF G
    rw [e_65_2]
    by_cases c : bt l k = true
    · have nn := ih (k + 1) (sAI V (7 + 3 * r) k (wAI V (7 + 3 * r) k ||| f)) (by omega) (Fr_sAI hF (Or.inl rfl)) (fun p hp => by
        simp only [mj_cpok, mj_nn, reduceCtorEq, lg_self, Nat.not_lt_zero, Nat.zero_le, Nat.reduceEqDiff, Nat.reduceLT, Nat.reduceLeDiff, true_or, or_true, false_or, or_false, not_true_eq_false, not_false_eq_true, true_imp_iff, false_imp_iff, and_self, wrd, u2, and_true, true_and, and_false, false_and, and_self, ite_true, ite_false, reduceIte]
        by_cases h : p = k
        · subst h
          rw [if_pos rfl, if_pos (Nat.lt_succ_self _), hV p hp, if_neg (by omega)]
          unfold lkF
          rw [if_pos ⟨hp, c⟩]
        · rw [if_neg h, hV p hp]
          by_cases h' : p < k
          · rw [if_pos h', if_pos (by omega)]
          · rw [if_neg h', if_neg (by omega)])
      simp (disch := omega) only [e_65_3, e_65_5, e_65_8, e_65_9, e_65_10, e_65_11, e_65_12, e_65_13, e_65_16, e_65_17, e_65_20, e_65_21, e_65_22, e_65_23, e_65_24, e_65_25, e_65_26, e_65_29, i_lit, i_add, i_mul, i_m1, i_lt, i_le, i_eq, i_cl, i_in, i_ltN, i_Nlt, i_leN, i_Nle, i_eN, i_Ne, i_inN, i_l1, i_l2, mj_cpok, mj_nn, reduceCtorEq, lg_self, Nat.not_lt_zero, Nat.zero_le, Nat.reduceEqDiff, Nat.reduceLT, Nat.reduceLeDiff, true_or, or_true, false_or, or_false, not_true_eq_false, not_false_eq_true, true_imp_iff, false_imp_iff, and_self, wrd, u2, and_true, true_and, and_false, false_and, and_self, ite_true, ite_false, reduceIte, ts_u0, c, g_320 G' hr, Bool.false_eq_true, Bool.true_eq_false]
      (repeat' (first | (with_reducible refine And.intro ?_ ?_) | (with_reducible intro _)))
      all_goals first | omega | exact nn
    · have c' : bt l k = false := Bool.eq_false_iff.mpr c
      have nn := ih (k + 1) V (by omega) hF (fun p hp => by
        rw [hV p hp]
        by_cases h' : p < k
        · rw [if_pos h', if_pos (by omega)]
        · rw [if_neg h']
          by_cases h : p < k + 1
          · rw [if_pos h]
            have e : p = k := by omega
            subst e
            unfold lkF
            rw [if_neg (fun q => c q.2)]
          · rw [if_neg h])
      simp (disch := omega) only [e_65_3, e_65_5, e_65_8, e_65_9, e_65_10, e_65_11, e_65_12, e_65_13, e_65_26, e_65_29, i_lit, i_add, i_mul, i_m1, i_lt, i_le, i_eq, i_cl, i_in, i_ltN, i_Nlt, i_leN, i_Nle, i_eN, i_Ne, i_inN, i_l1, i_l2, mj_cpok, mj_nn, reduceCtorEq, lg_self, Nat.not_lt_zero, Nat.zero_le, Nat.reduceEqDiff, Nat.reduceLT, Nat.reduceLeDiff, true_or, or_true, false_or, or_false, not_true_eq_false, not_false_eq_true, true_imp_iff, false_imp_iff, and_self, wrd, u2, and_true, true_and, and_false, false_and, and_self, ite_true, ite_false, reduceIte, ts_u0, c', Bool.false_eq_true, Bool.true_eq_false]
      (repeat' (first | (with_reducible refine And.intro ?_ ?_) | (with_reducible intro _)))
      all_goals first | omega | exact nn
theorem c_65 {l f : Int32} (G : Gr W) (hr : r < 12) (K : ∀ V, Fr (fun _ _ => False) (fun a => a = 7 + 3 * r) 0 0 W V → (∀ p, p < 30 → wAI V (7 + 3 * r) p = lkF (wAI W (7 + 3 * r)) l f p) → Q (.inl none) V) :
    mR d W 65 0 [some (vR (some (5, 0, 6 + 3 * r))), some (vI l), some (vI f), none] [] Q := by
  have nn := c_65l (d := d) (W := W) (r := r) (l := l) (f := f) G hr K 30 0 W rfl Fr_refl (fun p hp => by rw [if_neg (by omega)])
  simp (disch := omega) only [e_65_0, e_65_1, i_lit, i_add, i_mul, i_m1, i_lt, i_le, i_eq, i_cl, i_in, i_ltN, i_Nlt, i_leN, i_Nle, i_eN, i_Ne, i_inN, i_l1, i_l2, mj_cpok, mj_nn, reduceCtorEq, lg_self, Nat.not_lt_zero, Nat.zero_le, Nat.reduceEqDiff, Nat.reduceLT, Nat.reduceLeDiff, true_or, or_true, false_or, or_false, not_true_eq_false, not_false_eq_true, true_imp_iff, false_imp_iff, and_self, wrd, u2, and_true, true_and, and_false, false_and, and_self, ite_true, ite_false, reduceIte]
  exact nn
end CL
