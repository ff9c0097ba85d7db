/-! addRule: the reference, the useful places found. -/
section RF
variable {d : Nat} {W : MWd} {r np : Nat} {Q : MRes → MWd → Prop}
def laM (l : Int32) (hl : Bool) (l2 : Int32) (e2 : Bool) : Int32 := if hl = true then l2 ||| (if e2 = true then l else Int32.ofNat 0) else l
def foM (fo : Nat → Int32) (l f2 : Int32) (p : Nat) : Int32 := fo p ||| (if bt l p = true then f2 else Int32.ofNat 0)
theorem r_128 {fo lt : Nat → Int32} {f l f2 l2 : Int32} {hl e2 : Bool} {p : Nat} (G : Gr W) (hr : r < 12) (hnp : np ≤ 30) (hW : rgW W r np fo lt f l hl f2 l2 e2) (hp : p < np) (h : Q (.inl (some (vI (foM fo l f2 p)))) W) : mR d W 128 0 [some (vR (some (10, 0, 128))), some (vI (Int32.ofNat r)), some (vI (Int32.ofNat p))] [] Q := by
  obtain ⟨h133, h134, h137, h138, h139, h140, h141, hpp⟩ := hW
  have e1 := (hpp p hp).1
  unfold foM at h
  by_cases c : bt l p = true
  · rw [if_pos c] at h
    simp (disch := omega) only [e_128_0, e_128_1, e_128_4, e_128_6, e_128_7, e_128_8, e_128_9, e_128_10, e_128_11, e_128_12, e_128_15, e_128_16, e_128_17, e_128_18, e_128_19, e_128_20, e_128_21, e_128_22, e_128_25, e_128_26, e_128_29, e_128_30, e_128_31, e_128_34, e_128_35, e_128_36, i_lit, i_add, i_mul, i_m1, i_lt, i_le, i_eq, i_cl, i_in, i_ltN, i_Nlt, i_leN, i_Nle, i_eN, i_Ne, i_inN, i_l1, i_l2, mj_cpok, mj_nn, reduceCtorEq, lg_self, Nat.not_lt_zero, Nat.zero_le, Nat.reduceEqDiff, Nat.reduceLT, Nat.reduceLeDiff, true_or, or_true, false_or, or_false, not_true_eq_false, not_false_eq_true, true_imp_iff, false_imp_iff, and_self, wrd, u2, and_true, true_and, and_false, false_and, and_self, ite_true, ite_false, reduceIte, ts_s1, g_651 G, g_653 G, g_654 G, h138, h139, e1, c]
    (repeat' (first | (with_reducible refine And.intro ?_ ?_) | (with_reducible intro _)))
    all_goals first | omega | exact h
  · rw [if_neg c] at h
    have c' : bt l p = false := Bool.eq_false_iff.mpr c
    simp (disch := omega) only [e_128_0, e_128_1, e_128_4, e_128_6, e_128_7, e_128_8, e_128_9, e_128_10, e_128_11, e_128_12, e_128_15, e_128_16, e_128_17, e_128_18, e_128_19, e_128_20, e_128_21, e_128_22, e_128_25, e_128_26, e_128_29, e_128_30, e_128_31, e_128_34, e_128_35, e_128_36, i_lit, i_add, i_mul, i_m1, i_lt, i_le, i_eq, i_cl, i_in, i_ltN, i_Nlt, i_leN, i_Nle, i_eN, i_Ne, i_inN, i_l1, i_l2, mj_cpok, mj_nn, reduceCtorEq, lg_self, Nat.not_lt_zero, Nat.zero_le, Nat.reduceEqDiff, Nat.reduceLT, Nat.reduceLeDiff, true_or, or_true, false_or, or_false, not_true_eq_false, not_false_eq_true, true_imp_iff, false_imp_iff, and_self, wrd, u2, and_true, true_and, and_false, false_and, and_self, ite_true, ite_false, reduceIte, ts_s1, g_651 G, g_653 G, g_654 G, h138, h139, e1, c', Bool.false_eq_true]
    (repeat' (first | (with_reducible refine And.intro ?_ ?_) | (with_reducible intro _)))
    all_goals first | omega | exact h
theorem r_129 {fo lt : Nat → Int32} {f l f2 l2 : Int32} {hl e2 : Bool} (G : Gr W) (hr : r < 12) (hW : rgW W r np fo lt f l hl f2 l2 e2) (h : Q (.inl (some (vI (laM l hl l2 e2)))) W) : mR d W 129 0 [some (vR (some (10, 0, 128))), some (vI (Int32.ofNat r))] [] Q := by
  obtain ⟨h133, h134, h137, h138, h139, h140, h141, hpp⟩ := hW
  unfold laM at h
  cases hl <;> cases e2 <;> simp only [b2, Bool.false_eq_true, if_true, if_false] at h h133 h141
  all_goals
    simp (disch := omega) only [e_129_0, e_129_1, e_129_4, e_129_5, e_129_6, e_129_9, e_129_10, e_129_13, e_129_14, e_129_15, e_129_18, e_129_19, e_129_22, e_129_23, e_129_24, e_129_25, e_129_28, e_129_29, e_129_30, e_129_33, e_129_34, e_129_37, e_129_38, e_129_39, e_129_42, e_129_43, e_129_44, i_lit, i_add, i_mul, i_m1, i_lt, i_le, i_eq, i_cl, i_in, i_ltN, i_Nlt, i_leN, i_Nle, i_eN, i_Ne, i_inN, i_l1, i_l2, mj_cpok, mj_nn, reduceCtorEq, lg_self, Nat.not_lt_zero, Nat.zero_le, Nat.reduceEqDiff, Nat.reduceLT, Nat.reduceLeDiff, true_or, or_true, false_or, or_false, not_true_eq_false, not_false_eq_true, true_imp_iff, false_imp_iff, and_self, wrd, u2, and_true, true_and, and_false, false_and, and_self, ite_true, ite_false, reduceIte, g_648 G, g_653 G, g_655 G, g_656 G, h133, h138, h140, h141]
    (repeat' (first | (with_reducible refine And.intro ?_ ?_) | (with_reducible intro _)))
    all_goals first | omega | exact h
/-- one round -/
theorem r_130i {fo lt : Nat → Int32} {f l f2 l2 : Int32} {hl e2 : Bool} (G : Gr W) (hr : r < 12) (hnp : np ≤ 30) (hW : rgW W r np fo lt f l hl f2 l2 e2) {O X : Int32}
    (K : ∀ V Y, Fr (fun _ _ => False) (fun a => a = 142) 0 0 W V → (∀ j, j ≠ r → wAI V 142 j = wAI W 142 j) → wAI V 142 r = Y → (∀ p, p < 32 → bt X p = true → bt Y p = true) → useS (mtB np lt) (bt (laM l hl l2 e2)) (fun p => bt (foM fo l f2 p)) (bt Y) → (∀ p, p < 32 → bt Y p = true → mtB np lt p = true) →
      (∀ p, p < 32 → mtB np lt p = true → (bt (laM l hl l2 e2) p = true ∨ ∃ q, q < 32 ∧ bt (foM fo l f2 p) q = true ∧ bt X q = true) → bt Y p = true) → mR (d + 1) V 130 9 [some (vR (some (10, 0, 128))), some (vI (Int32.ofNat r)), some (vI X), some (vI (Int32.ofNat np))] [] Q) :
    ∀ (g k : Nat) (V : MWd) (Y : Int32), k + g = np → Fr (fun _ _ => False) (fun a => a = 142) 0 0 W V → (∀ j, j ≠ r → wAI V 142 j = wAI W 142 j) → wAI V 142 r = Y → (∀ p, p < 32 → bt X p = true → bt Y p = true) → useS (mtB np lt) (bt (laM l hl l2 e2)) (fun p => bt (foM fo l f2 p)) (bt Y) → (∀ p, p < 32 → bt Y p = true → mtB np lt p = true) →
      (∀ p, p < k → mtB np lt p = true → (bt (laM l hl l2 e2) p = true ∨ ∃ q, q < 32 ∧ bt (foM fo l f2 p) q = true ∧ bt X q = true) → bt Y p = true) → mR (d + 1) V 130 28 [some (vR (some (10, 0, 128))), some (vI (Int32.ofNat r)), some (vI X), some (vI (Int32.ofNat k))] [] Q := by
  intro g
  induction g with
  | zero =>
    intro k V Y hk hF hj hY hXY hS hM hC
    have e : k = np := by omega
    subst e
    have k0 := K V Y hF hj hY hXY hS hM (fun p hp hm => hC p (by
      unfold mtB at hm
      rw [Bool.and_eq_true, decide_eq_true_eq] at hm
      exact hm.1) hm)
    have GV := Fr_Gr hF G
    have e134 : wAI V 134 r = Int32.ofNat k := by rw [Fr_ai hF (by decide) (by omega)]; exact hW.2.1
    rw [e_130_28]
    simp (disch := omega) only [e_130_29, e_130_30, e_130_33, e_130_34, e_130_35, e_130_99, i_lit, i_add, i_mul, i_m1, i_lt, i_le, i_eq, i_cl, i_in, i_ltN, i_Nlt, i_leN, i_Nle, i_eN, i_Ne, i_inN, i_l1, i_l2, mj_cpok, mj_nn, reduceCtorEq, lg_self, Nat.not_lt_zero, Nat.zero_le, Nat.reduceEqDiff, Nat.reduceLT, Nat.reduceLeDiff, true_or, or_true, false_or, or_false, not_true_eq_false, not_false_eq_true, true_imp_iff, false_imp_iff, and_self, wrd, u2, and_true, true_and, and_false, false_and, and_self, ite_true, ite_false, reduceIte, g_649 GV, e134]
    (repeat' (first | (with_reducible refine And.intro ?_ ?_) | (with_reducible intro _)))
    all_goals first | omega | exact k0
  | succ g ih =>
    intro k V Y hk hF hj hY hXY hS hM hC
    have GV := Fr_Gr hF G
    have WV : rgW V r np fo lt f l hl f2 l2 e2 := by
      obtain ⟨h133, h134, h137, h138, h139, h140, h141, hpp⟩ := hW
      refine ⟨?_, ?_, ?_, ?_, ?_, ?_, ?_, ?_⟩
      · rw [Fr_ai hF (by decide) (by omega)]; exact h133
      · rw [Fr_ai hF (by decide) (by omega)]; exact h134
      · rw [Fr_ai hF (by decide) (by omega)]; exact h137
      · rw [Fr_ai hF (by decide) (by omega)]; exact h138
      · rw [Fr_ai hF (by decide) (by omega)]; exact h139
      · rw [Fr_ai hF (by decide) (by omega)]; exact h140
      · rw [Fr_ai hF (by decide) (by omega)]; exact h141
      · rw [Fr_ai hF (by decide) (by omega), Fr_ai hF (by decide) (by omega)]; exact hpp
    have e134 : wAI V 134 r = Int32.ofNat np := WV.2.1
    have e135 : wAI V 135 (30 * r + k) = lt k := (WV.2.2.2.2.2.2.2 k (by omega)).2
    -- the place is put to the set
    have put : mtB np lt k = true → (bt (laM l hl l2 e2) k = true ∨ ∃ q, q < 32 ∧ bt (foM fo l f2 k) q = true ∧ bt Y q = true) → mR (d + 1) V 130 81 [some (vR (some (10, 0, 128))), some (vI (Int32.ofNat r)), some (vI X), some (vI (Int32.ofNat k))] [] Q := by
      intro hm hc
      have hbit : ∀ p, p < 32 → (bt (Y ||| bit1 k) p = true ↔ bt Y p = true ∨ k = p) := fun p hp => by
        rw [bt_or, Bool.or_eq_true, bit1_bt (by omega), decide_eq_true_eq]
      have nn := ih (k + 1) (sAI V 142 r (Y ||| bit1 k)) (Y ||| bit1 k) (by omega) (Fr_sAI hF (Or.inl rfl)) (fun j hjr => by simp only [mj_cpok, mj_nn, reduceCtorEq, lg_self, Nat.not_lt_zero, Nat.zero_le, Nat.reduceEqDiff, Nat.reduceLT, Nat.reduceLeDiff, true_or, or_true, false_or, or_false, not_true_eq_false, not_false_eq_true, true_imp_iff, false_imp_iff, and_self, wrd, u2, and_true, true_and, and_false, false_and, and_self, ite_true, ite_false, reduceIte, hjr]; exact hj j hjr) (by simp only [mj_cpok, mj_nn, reduceCtorEq, lg_self, Nat.not_lt_zero, Nat.zero_le, Nat.reduceEqDiff, Nat.reduceLT, Nat.reduceLeDiff, true_or, or_true, false_or, or_false, not_true_eq_false, not_false_eq_true, true_imp_iff, false_imp_iff, and_self, wrd, u2, and_true, true_and, and_false, false_and, and_self, ite_true, ite_false, reduceIte]) (fun p hp h => (hbit p hp).mpr (Or.inl (hXY p hp h))) (useS_or hS (fun p hp h => by
          rcases (hbit p hp).mp h with h | h
          · exact Or.inl h
          · subst h; exact Or.inr ⟨hm, hc⟩)) (fun p hp h => by
          rcases (hbit p hp).mp h with h | h
          · exact hM p hp h
          · subst h; exact hm) (fun p hp hm' hc' => by
          by_cases c : p = k
          · exact (hbit p (by omega)).mpr (Or.inr c.symm)
          · exact (hbit p (by omega)).mpr (Or.inl (hC p (by omega) hm' hc')))
      unfold bit1 at nn
      simp (disch := omega) only [e_130_81, e_130_82, e_130_85, e_130_86, e_130_87, e_130_88, e_130_89, e_130_90, e_130_91, e_130_92, e_130_93, e_130_96, i_lit, i_add, i_mul, i_m1, i_lt, i_le, i_eq, i_cl, i_in, i_ltN, i_Nlt, i_leN, i_Nle, i_eN, i_Ne, i_inN, i_l1, i_l2, mj_cpok, mj_nn, reduceCtorEq, lg_self, Nat.not_lt_zero, Nat.zero_le, Nat.reduceEqDiff, Nat.reduceLT, Nat.reduceLeDiff, true_or, or_true, false_or, or_false, not_true_eq_false, not_false_eq_true, true_imp_iff, false_imp_iff, and_self, wrd, u2, and_true, true_and, and_false, false_and, and_self, ite_true, ite_false, reduceIte, g_657 GV, hY]
      (repeat' (first | (with_reducible refine And.intro ?_ ?_) | (with_reducible intro _)))
      all_goals first | omega | exact nn
    -- it is not
    have skip : ¬ (mtB np lt k = true ∧ (bt (laM l hl l2 e2) k = true ∨ ∃ q, q < 32 ∧ bt (foM fo l f2 k) q = true ∧ bt Y q = true)) → mR (d + 1) V 130 93 [some (vR (some (10, 0, 128))), some (vI (Int32.ofNat r)), some (vI X), some (vI (Int32.ofNat k))] [] Q := by
      intro hn
      have nn := ih (k + 1) V Y (by omega) hF hj hY hXY hS hM (fun p hp hm' hc' => by
        by_cases c : p = k
        · subst c
          exact absurd ⟨hm', hc'.elim Or.inl (fun ⟨q, h1, h2, h3⟩ => Or.inr ⟨q, h1, h2, hXY q h1 h3⟩)⟩ hn
        · exact hC p (by omega) hm' hc')
      simp (disch := omega) only [e_130_93, e_130_96, i_lit, i_add, i_mul, i_m1, i_lt, i_le, i_eq, i_cl, i_in, i_ltN, i_Nlt, i_leN, i_Nle, i_eN, i_Ne, i_inN, i_l1, i_l2, mj_cpok, mj_nn, reduceCtorEq, lg_self, Nat.not_lt_zero, Nat.zero_le, Nat.reduceEqDiff, Nat.reduceLT, Nat.reduceLeDiff, true_or, or_true, false_or, or_false, not_true_eq_false, not_false_eq_true, true_imp_iff, false_imp_iff, and_self, wrd, u2, and_true, true_and, and_false, false_and, and_self, ite_true, ite_false, reduceIte]
      exact nn
    rw [e_130_28]
    by_cases c0 : lt k = Int32.ofNat 0
    · have s0 := skip (fun q => by
        have := q.1
        unfold mtB at this
        rw [c0, decide_eq_true (show Int32.ofNat 0 = Int32.ofNat 0 from rfl), Bool.not_true, Bool.and_false] at this
        cases this)
      simp (disch := omega) only [e_130_29, e_130_30, e_130_33, e_130_34, e_130_35, e_130_38, e_130_39, e_130_42, e_130_44, e_130_45, e_130_46, e_130_47, e_130_48, e_130_49, i_lit, i_add, i_mul, i_m1, i_lt, i_le, i_eq, i_cl, i_in, i_ltN, i_Nlt, i_leN, i_Nle, i_eN, i_Ne, i_inN, i_l1, i_l2, mj_cpok, mj_nn, reduceCtorEq, lg_self, Nat.not_lt_zero, Nat.zero_le, Nat.reduceEqDiff, Nat.reduceLT, Nat.reduceLeDiff, true_or, or_true, false_or, or_false, not_true_eq_false, not_false_eq_true, true_imp_iff, false_imp_iff, and_self, wrd, u2, and_true, true_and, and_false, false_and, and_self, ite_true, ite_false, reduceIte, g_649 GV, g_650 GV, e134, e135, c0]
      (repeat' (first | (with_reducible refine And.intro ?_ ?_) | (with_reducible intro _)))
      all_goals first | omega | exact s0
    · have hmk : mtB np lt k = true := by
        unfold mtB
        rw [decide_eq_true (show k < np by omega), decide_eq_false c0]; rfl
      have n129 : mR d V 129 0 [some (vR (some (10, 0, 128))), some (vI (Int32.ofNat r))] [] (mK (d + 1) 130 54 57 [some (vR (some (10, 0, 128))), some (vI (Int32.ofNat r)), some (vI X), some (vI (Int32.ofNat k))] [] Q) := by
        refine r_129 GV hr WV ?_
        by_cases c1 : bt (laM l hl l2 e2) k = true
        · have p0 := put hmk (Or.inl c1)
          simp (disch := omega) only [e_130_57, e_130_58, e_130_59, e_130_60, e_130_61, e_130_62, i_lit, i_add, i_mul, i_m1, i_lt, i_le, i_eq, i_cl, i_in, i_ltN, i_Nlt, i_leN, i_Nle, i_eN, i_Ne, i_inN, i_l1, i_l2, mj_cpok, mj_nn, reduceCtorEq, lg_self, Nat.not_lt_zero, Nat.zero_le, Nat.reduceEqDiff, Nat.reduceLT, Nat.reduceLeDiff, true_or, or_true, false_or, or_false, not_true_eq_false, not_false_eq_true, true_imp_iff, false_imp_iff, and_self, wrd, u2, and_true, true_and, and_false, false_and, and_self, ite_true, ite_false, reduceIte, mK_v, ts_s1, c1]
          (repeat' (first | (with_reducible refine And.intro ?_ ?_) | (with_reducible intro _)))
          all_goals first | omega | exact p0
        · have c1' : bt (laM l hl l2 e2) k = false := Bool.eq_false_iff.mpr c1
          have n128 : mR d V 128 0 [some (vR (some (10, 0, 128))), some (vI (Int32.ofNat r)), some (vI (Int32.ofNat k))] [] (mK (d + 1) 130 68 71 [some (vR (some (10, 0, 128))), some (vI (Int32.ofNat r)), some (vI X), some (vI (Int32.ofNat k))] [] Q) := by
            refine r_128 GV hr hnp WV (by omega) ?_
            by_cases c2 : foM fo l f2 k &&& Y = Int32.ofNat 0
            · have s0 := skip (fun q => by
                rcases q.2 with q | ⟨x, h1, h2, h3⟩
                · exact c1 q
                · have := ts_0.mp c2 x h1
                  rw [bt_and, h2, h3] at this; cases this)
              simp (disch := omega) only [e_130_71, e_130_72, e_130_75, e_130_76, e_130_77, e_130_78, i_lit, i_add, i_mul, i_m1, i_lt, i_le, i_eq, i_cl, i_in, i_ltN, i_Nlt, i_leN, i_Nle, i_eN, i_Ne, i_inN, i_l1, i_l2, mj_cpok, mj_nn, reduceCtorEq, lg_self, Nat.not_lt_zero, Nat.zero_le, Nat.reduceEqDiff, Nat.reduceLT, Nat.reduceLeDiff, true_or, or_true, false_or, or_false, not_true_eq_false, not_false_eq_true, true_imp_iff, false_imp_iff, and_self, wrd, u2, and_true, true_and, and_false, false_and, and_self, ite_true, ite_false, reduceIte, mK_v, g_657 GV, hY, c2]
              (repeat' (first | (with_reducible refine And.intro ?_ ?_) | (with_reducible intro _)))
              all_goals first | omega | exact s0
            · have p0 := put hmk (Or.inr (Classical.byContradiction fun hn => c2 (ts_0.mpr fun x hx => by
                rw [bt_and]
                cases h1 : bt (foM fo l f2 k) x
                · rfl
                · cases h2 : bt Y x
                  · rfl
                  · exact absurd ⟨x, hx, h1, h2⟩ hn)))
              simp (disch := omega) only [e_130_71, e_130_72, e_130_75, e_130_76, e_130_77, e_130_78, i_lit, i_add, i_mul, i_m1, i_lt, i_le, i_eq, i_cl, i_in, i_ltN, i_Nlt, i_leN, i_Nle, i_eN, i_Ne, i_inN, i_l1, i_l2, mj_cpok, mj_nn, reduceCtorEq, lg_self, Nat.not_lt_zero, Nat.zero_le, Nat.reduceEqDiff, Nat.reduceLT, Nat.reduceLeDiff, true_or, or_true, false_or, or_false, not_true_eq_false, not_false_eq_true, true_imp_iff, false_imp_iff, and_self, wrd, u2, and_true, true_and, and_false, false_and, and_self, ite_true, ite_false, reduceIte, mK_v, g_657 GV, hY, c2]
              (repeat' (first | (with_reducible refine And.intro ?_ ?_) | (with_reducible intro _)))
              all_goals first | omega | exact p0
          simp (disch := omega) only [e_130_57, e_130_58, e_130_59, e_130_60, e_130_61, e_130_62, e_130_65, e_130_66, e_130_67, e_130_68, i_lit, i_add, i_mul, i_m1, i_lt, i_le, i_eq, i_cl, i_in, i_ltN, i_Nlt, i_leN, i_Nle, i_eN, i_Ne, i_inN, i_l1, i_l2, mj_cpok, mj_nn, reduceCtorEq, lg_self, Nat.not_lt_zero, Nat.zero_le, Nat.reduceEqDiff, Nat.reduceLT, Nat.reduceLeDiff, true_or, or_true, false_or, or_false, not_true_eq_false, not_false_eq_true, true_imp_iff, false_imp_iff, and_self, wrd, u2, and_true, true_and, and_false, false_and, and_self, ite_true, ite_false, reduceIte, mK_v, ts_s1, c1', Bool.false_eq_true]
          (repeat' (first | (with_reducible refine And.intro ?_ ?_) | (with_reducible intro _)))
          all_goals first | omega | exact n128
      simp (disch := omega) only [e_130_29, e_130_30, e_130_33, e_130_34, e_130_35, e_130_38, e_130_39, e_130_42, e_130_44, e_130_45, e_130_46, e_130_47, e_130_48, e_130_49, e_130_52, e_130_53, e_130_54, i_lit, i_add, i_mul, i_m1, i_lt, i_le, i_eq, i_cl, i_in, i_ltN, i_Nlt, i_leN, i_Nle, i_eN, i_Ne, i_inN, i_l1, i_l2, mj_cpok, mj_nn, reduceCtorEq, lg_self, Nat.not_lt_zero, Nat.zero_le, Nat.reduceEqDiff, Nat.reduceLT, Nat.reduceLeDiff, true_or, or_true, false_or, or_false, not_true_eq_false, not_false_eq_true, true_imp_iff, false_imp_iff, and_self, wrd, u2, and_true, true_and, and_false, false_and, and_self, ite_true, ite_false, reduceIte, g_649 GV, g_650 GV, e134, e135, c0]
      (repeat' (first | (with_reducible refine And.intro ?_ ?_) | (with_reducible intro _)))
      all_goals first | omega | exact n129 | (rename_i q; exact absurd q c0)
theorem r_130 {fo lt : Nat → Int32} {f l f2 l2 : Int32} {hl e2 : Bool} (G : Gr W) (hr : r < 12) (hnp : np ≤ 30) (hW : rgW W r np fo lt f l hl f2 l2 e2)
    (K : ∀ V X, Fr (fun _ _ => False) (fun a => a = 142) 0 0 W V → (∀ j, j ≠ r → wAI V 142 j = wAI W 142 j) → wAI V 142 r = X → useC (mtB np lt) (bt (laM l hl l2 e2)) (fun p => bt (foM fo l f2 p)) (bt X) → useS (mtB np lt) (bt (laM l hl l2 e2)) (fun p => bt (foM fo l f2 p)) (bt X) → Q (.inl none) V) :
    mR (d + 1) W 130 0 [some (vR (some (10, 0, 128))), some (vI (Int32.ofNat r)), none, none] [] Q := by
  -- the loop ends
  have ex : ∀ (V : MWd) (X : Int32) (l3 : Option MV), Fr (fun _ _ => False) (fun a => a = 142) 0 0 W V → (∀ j, j ≠ r → wAI V 142 j = wAI W 142 j) → wAI V 142 r = X → useC (mtB np lt) (bt (laM l hl l2 e2)) (fun p => bt (foM fo l f2 p)) (bt X) → useS (mtB np lt) (bt (laM l hl l2 e2)) (fun p => bt (foM fo l f2 p)) (bt X) → mR (d + 1) V 130 9 [some (vR (some (10, 0, 128))), some (vI (Int32.ofNat r)), some (vI X), l3] [] Q := by
    intro V X l3 hF hj hX h1 h2
    have k0 := K V X hF hj hX h1 h2
    have GV := Fr_Gr hF G
    rw [e_130_9]
    simp (disch := omega) only [e_130_10, e_130_13, e_130_14, e_130_15, e_130_16, e_130_102, i_lit, i_add, i_mul, i_m1, i_lt, i_le, i_eq, i_cl, i_in, i_ltN, i_Nlt, i_leN, i_Nle, i_eN, i_Ne, i_inN, i_l1, i_l2, mj_cpok, mj_nn, reduceCtorEq, lg_self, Nat.not_lt_zero, Nat.zero_le, Nat.reduceEqDiff, Nat.reduceLT, Nat.reduceLeDiff, true_or, or_true, false_or, or_false, not_true_eq_false, not_false_eq_true, true_imp_iff, false_imp_iff, and_self, wrd, u2, and_true, true_and, and_false, false_and, and_self, ite_true, ite_false, reduceIte, g_657 GV, hX]
    (repeat' (first | (with_reducible refine And.intro ?_ ?_) | (with_reducible intro _)))
    all_goals first | omega | exact k0
  have loop : ∀ (g : Nat) (V : MWd) (Y O : Int32) (l3 : Option MV), 32 ≤ cnt (bt Y) 32 + g → Y ≠ O → Fr (fun _ _ => False) (fun a => a = 142) 0 0 W V → (∀ j, j ≠ r → wAI V 142 j = wAI W 142 j) → wAI V 142 r = Y → useS (mtB np lt) (bt (laM l hl l2 e2)) (fun p => bt (foM fo l f2 p)) (bt Y) → (∀ p, p < 32 → bt Y p = true → mtB np lt p = true) →
      mR (d + 1) V 130 9 [some (vR (some (10, 0, 128))), some (vI (Int32.ofNat r)), some (vI O), l3] [] Q := by
    intro g
    induction g with
    | zero =>
      intro V Y O l3 hg hne hF hj hY hS hM
      have := cnt_30 (X := bt Y) (fun p hp h => by
        have := hM p hp h
        unfold mtB at this
        rw [Bool.and_eq_true, decide_eq_true_eq] at this
        omega)
      omega
    | succ g ih =>
      intro V Y O l3 hg hne hF hj hY hS hM
      have GV := Fr_Gr hF G
      have WV : rgW V r np fo lt f l hl f2 l2 e2 := by
        obtain ⟨h133, h134, h137, h138, h139, h140, h141, hpp⟩ := hW
        refine ⟨?_, ?_, ?_, ?_, ?_, ?_, ?_, ?_⟩
        · rw [Fr_ai hF (by decide) (by omega)]; exact h133
        · rw [Fr_ai hF (by decide) (by omega)]; exact h134
        · rw [Fr_ai hF (by decide) (by omega)]; exact h137
        · rw [Fr_ai hF (by decide) (by omega)]; exact h138
        · rw [Fr_ai hF (by decide) (by omega)]; exact h139
        · rw [Fr_ai hF (by decide) (by omega)]; exact h140
        · rw [Fr_ai hF (by decide) (by omega)]; exact h141
        · rw [Fr_ai hF (by decide) (by omega), Fr_ai hF (by decide) (by omega)]; exact hpp
      have nn := r_130i (d := d) (W := V) (Q := Q) (X := Y) (O := O) GV hr hnp WV (fun U Z hU hj2 hZ hsub hS2 hM2 hC => ?_) np 0 V Y (Nat.zero_add _) Fr_refl (fun _ _ => rfl) hY (fun _ _ h => h) hS hM (fun p hp => absurd hp (Nat.not_lt_zero p))
      · rw [e_130_9]
        simp (disch := omega) only [e_130_10, e_130_13, e_130_14, e_130_15, e_130_16, e_130_19, e_130_20, e_130_23, e_130_24, e_130_25, e_130_26, e_130_27, i_lit, i_add, i_mul, i_m1, i_lt, i_le, i_eq, i_cl, i_in, i_ltN, i_Nlt, i_leN, i_Nle, i_eN, i_Ne, i_inN, i_l1, i_l2, mj_cpok, mj_nn, reduceCtorEq, lg_self, Nat.not_lt_zero, Nat.zero_le, Nat.reduceEqDiff, Nat.reduceLT, Nat.reduceLeDiff, true_or, or_true, false_or, or_false, not_true_eq_false, not_false_eq_true, true_imp_iff, false_imp_iff, and_self, wrd, u2, and_true, true_and, and_false, false_and, and_self, ite_true, ite_false, reduceIte, g_657 GV, hY]
        (repeat' (first | (with_reducible refine And.intro ?_ ?_) | (with_reducible intro _)))
        all_goals first | omega | exact nn | (rename_i q; exact absurd q hne)
      · have FU : Fr (fun _ _ => False) (fun a => a = 142) 0 0 W U := Fr_trans (x := 0) (y := 0) hF hU
        have ju : ∀ j, j ≠ r → wAI U 142 j = wAI W 142 j := fun j hjr => (hj2 j hjr).trans (hj j hjr)
        by_cases c : Z = Y
        · subst c
          exact ex U Z _ FU ju hZ hC hS2
        · have hex : ∃ p, p < 32 ∧ bt Z p = true ∧ bt Y p = false := by
            refine Classical.byContradiction fun hn => c (bt_ext fun p hp => ?_)
            cases h1 : bt Y p
            · cases h2 : bt Z p
              · rfl
              · exact absurd ⟨p, hp, h2, h1⟩ hn
            · rw [hsub p hp h1]
          have := cnt_ne hsub hex
          exact ih U Z Y _ (by omega) c FU ju hZ hS2 hM2
  have F1 : Fr (fun _ _ => False) (fun a => a = 142) 0 0 W (sAI W 142 r (Int32.ofNat 0)) := Fr_sAI Fr_refl (Or.inl rfl)
  have nn := loop 32 (sAI W 142 r (Int32.ofNat 0)) (Int32.ofNat 0) NN none (by omega) (by decide) F1 (fun j hjr => by simp only [mj_cpok, mj_nn, reduceCtorEq, lg_self, Nat.not_lt_zero, Nat.zero_le, Nat.reduceEqDiff, Nat.reduceLT, Nat.reduceLeDiff, true_or, or_true, false_or, or_false, not_true_eq_false, not_false_eq_true, true_imp_iff, false_imp_iff, and_self, wrd, u2, and_true, true_and, and_false, false_and, and_self, ite_true, ite_false, reduceIte, hjr]) (by simp only [mj_cpok, mj_nn, reduceCtorEq, lg_self, Nat.not_lt_zero, Nat.zero_le, Nat.reduceEqDiff, Nat.reduceLT, Nat.reduceLeDiff, true_or, or_true, false_or, or_false, not_true_eq_false, not_false_eq_true, true_imp_iff, false_imp_iff, and_self, wrd, u2, and_true, true_and, and_false, false_and, and_self, ite_true, ite_false, reduceIte]) (fun Y _ p _ h => by rw [bt_0] at h; cases h) (fun p _ h => by rw [bt_0] at h; cases h)
  simp (disch := omega) only [e_130_0, e_130_1, e_130_4, e_130_5, e_130_6, e_130_7, e_130_8, i_lit, i_add, i_mul, i_m1, i_lt, i_le, i_eq, i_cl, i_in, i_ltN, i_Nlt, i_leN, i_Nle, i_eN, i_Ne, i_inN, i_l1, i_l2, mj_cpok, mj_nn, reduceCtorEq, lg_self, Nat.not_lt_zero, Nat.zero_le, Nat.reduceEqDiff, Nat.reduceLT, Nat.reduceLeDiff, true_or, or_true, false_or, or_false, not_true_eq_false, not_false_eq_true, true_imp_iff, false_imp_iff, and_self, wrd, u2, and_true, true_and, and_false, false_and, and_self, ite_true, ite_false, reduceIte, g_657 G]
  (repeat' (first | (with_reducible refine And.intro ?_ ?_) | (with_reducible intro _)))
  all_goals first | omega | exact nn
end RF
