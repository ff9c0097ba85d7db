/-! scan: the reference cuts a token. -/
section SC
variable {d : Nat} {w : MWd} {Q : MRes → MWd → Prop}
theorem s_158 {r np tp k l : Nat} {X : Int32} (G : Gr w) (hr : r < 12) (hA : RuleA w r np tp) (hl : l < 8) (hk : k < 1000) (h129 : wAI w 129 k = Int32.ofNat (97 + l)) (h : ∀ y, (∀ q, bt y q = true ↔ bt X q = true ∧ rLt w r np l q) → Q (.inl (some (vI y))) w) :
    mR d w 158 0 [some (vR (some (10, 0, 128))), some (vI (Int32.ofNat r)), some (vI X), some (vI (Int32.ofNat k)), none, none] [] Q := by
  have hnp := hA.1
  have enp : wAI w 134 r = Int32.ofNat np := hA.2.2.2.2.2.2.2.1
  have hsub : Int32.ofNat (97 + l) - Int32.ofNat 97 = Int32.ofNat l := by rw [i_sub (by omega)]; congr 1; omega
  have loop : ∀ (f p : Nat) (y : Int32), p + f = np → (∀ q, bt y q = true ↔ q < p ∧ bt X q = true ∧ rLt w r np l q) → mR d w 158 6 [some (vR (some (10, 0, 128))), some (vI (Int32.ofNat r)), some (vI X), some (vI (Int32.ofNat k)), some (vI y), some (vI (Int32.ofNat p))] [] Q := by
    intro f
    induction f with
    | zero =>
      intro p y hp hy
      have he : p = np := by omega
      subst he
      rw [e_158_6]
      simp (disch := omega) only [e_158_0, e_158_1, e_158_3, e_158_4, e_158_8, e_158_9, e_158_12, e_158_13, e_158_14, e_158_17, e_158_18, e_158_20, e_158_21, e_158_22, e_158_23, e_158_24, e_158_27, e_158_28, e_158_31, e_158_33, e_158_34, e_158_35, e_158_37, e_158_38, e_158_39, e_158_40, e_158_43, e_158_44, e_158_45, e_158_47, e_158_48, e_158_49, e_158_50, e_158_51, e_158_52, e_158_55, e_158_57, e_158_58, e_158_60, e_158_61, e_158_62, e_158_64, e_158_67, e_158_70, e_158_72, i_lit, i_add, i_mul, i_m1, i_lt, i_le, i_eq, i_cl, i_in, i_ltN, i_Nlt, i_leN, i_Nle, i_eN, i_Ne, i_inN, i_l1, i_l2, mj_cpok, mj_nn, reduceCtorEq, lg_self, Nat.not_lt_zero, Nat.zero_le, Nat.reduceEqDiff, Nat.reduceLT, Nat.reduceLeDiff, true_or, or_true, false_or, or_false, not_true_eq_false, not_false_eq_true, true_imp_iff, false_imp_iff, and_self, wrd, u2, and_true, true_and, and_false, false_and, and_self, ite_true, ite_false, reduceIte, g_649 G, enp]
      (repeat' (first | (with_reducible refine And.intro ?_ ?_) | (with_reducible intro _)))
      all_goals try omega
      refine h y (fun q => ?_)
      rw [hy q]
      constructor
      · rintro ⟨-, h2⟩; exact h2
      · intro h2; exact ⟨h2.2.2.1, h2⟩
    | succ f ih =>
      intro p y hp hy
      have skip : ¬ (bt X p = true ∧ rLt w r np l p) → mR d w 158 6 [some (vR (some (10, 0, 128))), some (vI (Int32.ofNat r)), some (vI X), some (vI (Int32.ofNat k)), some (vI y), some (vI (Int32.ofNat (p + 1)))] [] Q := by
        intro hno
        refine ih (p + 1) y (by omega) (fun q => ?_)
        rw [hy q]
        constructor
        · rintro ⟨h1, h2⟩; exact ⟨by omega, h2⟩
        · rintro ⟨h1, h2⟩
          by_cases hqp : q = p
          · subst hqp; exact absurd h2 hno
          · exact ⟨by omega, h2⟩
      rw [e_158_6]
      simp (disch := omega) only [e_158_0, e_158_1, e_158_3, e_158_4, e_158_8, e_158_9, e_158_12, e_158_13, e_158_14, e_158_17, e_158_18, e_158_20, e_158_21, e_158_22, e_158_23, e_158_24, e_158_27, e_158_28, e_158_31, e_158_33, e_158_34, e_158_35, e_158_37, e_158_38, e_158_39, e_158_40, e_158_43, e_158_44, e_158_45, e_158_47, e_158_48, e_158_49, e_158_50, e_158_51, e_158_52, e_158_55, e_158_57, e_158_58, e_158_60, e_158_61, e_158_62, e_158_64, e_158_67, e_158_70, e_158_72, i_lit, i_add, i_mul, i_m1, i_lt, i_le, i_eq, i_cl, i_in, i_ltN, i_Nlt, i_leN, i_Nle, i_eN, i_Ne, i_inN, i_l1, i_l2, mj_cpok, mj_nn, reduceCtorEq, lg_self, Nat.not_lt_zero, Nat.zero_le, Nat.reduceEqDiff, Nat.reduceLT, Nat.reduceLeDiff, true_or, or_true, false_or, or_false, not_true_eq_false, not_false_eq_true, true_imp_iff, false_imp_iff, and_self, wrd, u2, and_true, true_and, and_false, false_and, and_self, ite_true, ite_false, reduceIte, ts_s1, g_649 G, g_650 G, g_641 G, enp, h129, hsub]
      (repeat' (first | (with_reducible refine And.intro ?_ ?_) | (with_reducible intro _)))
      all_goals try omega
      · rename_i hb; exact skip fun q => hb q.1
      · rename_i hb hb2; exact skip fun q => hb2 q.2.2.2
      · rename_i hb hb2
        refine ih (p + 1) _ (by omega) (fun q => ?_)
        rw [bt_or, bt_bit (by omega), Bool.or_eq_true, hy q, decide_eq_true_eq]
        constructor
        · rintro (⟨h1, h2⟩ | h1)
          · exact ⟨by omega, h2⟩
          · subst h1; exact ⟨by omega, hb, hl, by omega, hb2⟩
        · rintro ⟨h1, h2⟩
          by_cases hqp : p = q
          · exact Or.inr hqp
          · exact Or.inl ⟨by omega, h2⟩
  rw [e_158_0, e_158_1, e_158_3, e_158_4]
  exact loop np 0 _ (by omega) (fun q => by
    rw [show (0 : Int32) = Int32.ofNat 0 from rfl, bt_0]
    exact iff_of_false Bool.false_ne_true (fun h => absurd h.1 (Nat.not_lt_zero q)))
theorem s_157 {r np tp k l : Nat} {X : Int32} (G : Gr w) (hr : r < 12) (hA : RuleA w r np tp) (hl : l < 8) (hk : k < 1000) (h129 : wAI w 129 k = Int32.ofNat (97 + l)) (h : ∀ y, (∀ q, bt y q = true ↔ (∃ t, bt X t = true ∧ rFo w r np t q) ∧ rLt w r np l q) → Q (.inl (some (vI y))) w) :
    mR (d + 1) w 157 0 [some (vR (some (10, 0, 128))), some (vI (Int32.ofNat r)), some (vI X), some (vI (Int32.ofNat k)), none, none] [] Q := by
  have hnp := hA.1
  have enp : wAI w 134 r = Int32.ofNat np := hA.2.2.2.2.2.2.2.1
  have loop : ∀ (f p : Nat) (y : Int32), p + f = np → (∀ q, bt y q = true ↔ ∃ t, t < p ∧ bt X t = true ∧ rFo w r np t q) → mR (d + 1) w 157 6 [some (vR (some (10, 0, 128))), some (vI (Int32.ofNat r)), some (vI X), some (vI (Int32.ofNat k)), some (vI y), some (vI (Int32.ofNat p))] [] Q := by
    intro f
    induction f with
    | zero =>
      intro p y hp hy
      have he : p = np := by omega
      subst he
      rw [e_157_6]
      simp (disch := omega) only [e_157_0, e_157_1, e_157_3, e_157_4, e_157_8, e_157_9, e_157_12, e_157_13, e_157_14, e_157_17, e_157_18, e_157_20, e_157_21, e_157_22, e_157_23, e_157_24, e_157_27, e_157_29, e_157_30, e_157_33, e_157_35, e_157_36, e_157_37, e_157_39, e_157_40, e_157_41, e_157_42, e_157_44, e_157_47, e_157_50, e_157_51, e_157_52, e_157_54, e_157_55, e_157_58, i_lit, i_add, i_mul, i_m1, i_lt, i_le, i_eq, i_cl, i_in, i_ltN, i_Nlt, i_leN, i_Nle, i_eN, i_Ne, i_inN, i_l1, i_l2, mj_cpok, mj_nn, reduceCtorEq, lg_self, Nat.not_lt_zero, Nat.zero_le, Nat.reduceEqDiff, Nat.reduceLT, Nat.reduceLeDiff, true_or, or_true, false_or, or_false, not_true_eq_false, not_false_eq_true, true_imp_iff, false_imp_iff, and_self, wrd, u2, and_true, true_and, and_false, false_and, and_self, ite_true, ite_false, reduceIte, g_649 G, enp]
      (repeat' (first | (with_reducible refine And.intro ?_ ?_) | (with_reducible intro _)))
      all_goals try omega
      refine s_158 G hr hA hl hk h129 (fun z hz => ?_)
      simp (disch := omega) only [mK_v, e_157_0, e_157_1, e_157_3, e_157_4, e_157_8, e_157_9, e_157_12, e_157_13, e_157_14, e_157_17, e_157_18, e_157_20, e_157_21, e_157_22, e_157_23, e_157_24, e_157_27, e_157_29, e_157_30, e_157_33, e_157_35, e_157_36, e_157_37, e_157_39, e_157_40, e_157_41, e_157_42, e_157_44, e_157_47, e_157_50, e_157_51, e_157_52, e_157_54, e_157_55, e_157_58]
      refine h z (fun q => ?_)
      rw [hz q, hy q]
      constructor
      · rintro ⟨⟨t, -, h1⟩, h2⟩; exact ⟨⟨t, h1⟩, h2⟩
      · rintro ⟨⟨t, h1, h3⟩, h2⟩; exact ⟨⟨t, h3.1, h1, h3⟩, h2⟩
    | succ f ih =>
      intro p y hp hy
      rw [e_157_6]
      simp (disch := omega) only [e_157_0, e_157_1, e_157_3, e_157_4, e_157_8, e_157_9, e_157_12, e_157_13, e_157_14, e_157_17, e_157_18, e_157_20, e_157_21, e_157_22, e_157_23, e_157_24, e_157_27, e_157_29, e_157_30, e_157_33, e_157_35, e_157_36, e_157_37, e_157_39, e_157_40, e_157_41, e_157_42, e_157_44, e_157_47, e_157_50, e_157_51, e_157_52, e_157_54, e_157_55, e_157_58, i_lit, i_add, i_mul, i_m1, i_lt, i_le, i_eq, i_cl, i_in, i_ltN, i_Nlt, i_leN, i_Nle, i_eN, i_Ne, i_inN, i_l1, i_l2, mj_cpok, mj_nn, reduceCtorEq, lg_self, Nat.not_lt_zero, Nat.zero_le, Nat.reduceEqDiff, Nat.reduceLT, Nat.reduceLeDiff, true_or, or_true, false_or, or_false, not_true_eq_false, not_false_eq_true, true_imp_iff, false_imp_iff, and_self, wrd, u2, and_true, true_and, and_false, false_and, and_self, ite_true, ite_false, reduceIte, ts_s1, g_649 G, g_651 G, enp]
      (repeat' (first | (with_reducible refine And.intro ?_ ?_) | (with_reducible intro _)))
      all_goals try omega
      · rename_i hb
        refine ih (p + 1) y (by omega) (fun q => ?_)
        rw [hy q]
        constructor
        · rintro ⟨t, h1, h2⟩; exact ⟨t, by omega, h2⟩
        · rintro ⟨t, h1, h2⟩
          by_cases htp : t = p
          · subst htp; exact absurd h2.1 hb
          · exact ⟨t, by omega, h2⟩
      · rename_i hb
        refine ih (p + 1) _ (by omega) (fun q => ?_)
        rw [bt_or, Bool.or_eq_true, hy q]
        constructor
        · rintro (⟨t, h1, h2⟩ | h1)
          · exact ⟨t, by omega, h2⟩
          · exact ⟨p, by omega, hb, by omega, bt_lt h1, h1⟩
        · rintro ⟨t, h1, h2⟩
          by_cases htp : t = p
          · subst htp; exact Or.inr h2.2.2.2
          · exact Or.inl ⟨t, by omega, h2⟩
  rw [e_157_0, e_157_1, e_157_3, e_157_4]
  exact loop np 0 _ (by omega) (fun q => by
    rw [show (0 : Int32) = Int32.ofNat 0 from rfl, bt_0]
    exact iff_of_false Bool.false_ne_true (fun ⟨t, h, _⟩ => absurd h (Nat.not_lt_zero t)))
theorem s_159 {r np tp p L k : Nat} {u : Nat → Nat} (G : Gr w) (hr : r < 12) (hA : RuleA w r np tp) (hB : RuleB w r np) (hk : k ≤ L) (hpL : p + L ≤ 1000) (hu : ∀ i, i < L → u i < 8 ∧ wAI w 129 (p + i) = Int32.ofNat (97 + u i))
    (h1 : (k = L → rCE w r) → (k < L → ∃ q, flR u (rAF w r) (rFo w r np) (rLt w r np) k (L - 1 - k) q ∧ rAL w r q) → Q (.inl (some (vI (Int32.ofNat 1)))) w) (h0 : (¬ ((k = L → rCE w r) ∧ (k < L → ∃ q, flR u (rAF w r) (rFo w r np) (rLt w r np) k (L - 1 - k) q ∧ rAL w r q))) → Q (.inl (some (vI (Int32.ofNat 0)))) w) :
    mR (d + 2) w 159 0 [some (vR (some (10, 0, 128))), some (vI (Int32.ofNat r)), some (vI (Int32.ofNat (p + k))), some (vI (Int32.ofNat (p + L))), none, none] [] Q := by
  by_cases hkL : k = L
  · subst hkL
    have b3 := hB.2.2.1
    rcases b3 with e | e
    · simp (disch := omega) only [e_159_0, e_159_1, e_159_2, e_159_5, e_159_6, e_159_9, e_159_10, e_159_11, i_lit, i_add, i_mul, i_m1, i_lt, i_le, i_eq, i_cl, i_in, i_ltN, i_Nlt, i_leN, i_Nle, i_eN, i_Ne, i_inN, i_l1, i_l2, mj_cpok, mj_nn, reduceCtorEq, lg_self, Nat.not_lt_zero, Nat.zero_le, Nat.reduceEqDiff, Nat.reduceLT, Nat.reduceLeDiff, true_or, or_true, false_or, or_false, not_true_eq_false, not_false_eq_true, true_imp_iff, false_imp_iff, and_self, wrd, u2, and_true, true_and, and_false, false_and, and_self, ite_true, ite_false, reduceIte, g_656 G, e]
      (repeat' (first | (with_reducible refine And.intro ?_ ?_) | (with_reducible intro _)))
      all_goals first | omega | exact h0 (fun q => absurd (show wAI w 141 r = Int32.ofNat 1 from q.1 rfl) (by rw [e]; decide))
    · simp (disch := omega) only [e_159_0, e_159_1, e_159_2, e_159_5, e_159_6, e_159_9, e_159_10, e_159_11, i_lit, i_add, i_mul, i_m1, i_lt, i_le, i_eq, i_cl, i_in, i_ltN, i_Nlt, i_leN, i_Nle, i_eN, i_Ne, i_inN, i_l1, i_l2, mj_cpok, mj_nn, reduceCtorEq, lg_self, Nat.not_lt_zero, Nat.zero_le, Nat.reduceEqDiff, Nat.reduceLT, Nat.reduceLeDiff, true_or, or_true, false_or, or_false, not_true_eq_false, not_false_eq_true, true_imp_iff, false_imp_iff, and_self, wrd, u2, and_true, true_and, and_false, false_and, and_self, ite_true, ite_false, reduceIte, g_656 G, e]
      (repeat' (first | (with_reducible refine And.intro ?_ ?_) | (with_reducible intro _)))
      all_goals first | omega | exact h1 (fun _ => e) (fun q => by omega)
  · have loop : ∀ (f j : Nat) (x : Int32), k + j + f + 1 = L → (∀ q, bt x q = true ↔ flR u (rAF w r) (rFo w r np) (rLt w r np) k j q) → mR (d + 2) w 159 31 [some (vR (some (10, 0, 128))), some (vI (Int32.ofNat r)), some (vI (Int32.ofNat (p + k))), some (vI (Int32.ofNat (p + L))), some (vI x), some (vI (Int32.ofNat (p + k + j + 1)))] [] Q := by
      intro f
      induction f with
      | zero =>
        intro j x hj hx
        have hjj : j = L - 1 - k := by omega
        subst hjj
        rw [e_159_31]
        simp (disch := omega) only [e_159_33, e_159_34, e_159_54, e_159_56, e_159_57, e_159_60, e_159_61, e_159_62, e_159_63, e_159_66, e_159_67, e_159_70, e_159_71, i_lit, i_add, i_mul, i_m1, i_lt, i_le, i_eq, i_cl, i_in, i_ltN, i_Nlt, i_leN, i_Nle, i_eN, i_Ne, i_inN, i_l1, i_l2, mj_cpok, mj_nn, reduceCtorEq, lg_self, Nat.not_lt_zero, Nat.zero_le, Nat.reduceEqDiff, Nat.reduceLT, Nat.reduceLeDiff, true_or, or_true, false_or, or_false, not_true_eq_false, not_false_eq_true, true_imp_iff, false_imp_iff, and_self, wrd, u2, and_true, true_and, and_false, false_and, and_self, ite_true, ite_false, reduceIte, g_655 G]
        (repeat' (first | (with_reducible refine And.intro ?_ ?_) | (with_reducible intro _)))
        all_goals try omega
        · rename_i hz
          refine h0 fun q => ?_
          obtain ⟨t, h2, h3⟩ := q.2 (by omega)
          exact and_ne.mpr ⟨t, (hx t).mpr h2, h3.2⟩ hz
        · rename_i hz
          refine h1 (fun q => absurd q hkL) (fun _ => ?_)
          obtain ⟨t, h2, h3⟩ := and_ne.mp hz
          exact ⟨t, (hx t).mp h2, bt_lt h3, h3⟩
      | succ f ih =>
        intro j x hj hx
        obtain ⟨u1, u2⟩ := hu (k + j + 1) (by omega)
        rw [e_159_31]
        simp (disch := omega) only [e_159_33, e_159_34, e_159_37, e_159_38, e_159_39, e_159_41, e_159_43, i_lit, i_add, i_mul, i_m1, i_lt, i_le, i_eq, i_cl, i_in, i_ltN, i_Nlt, i_leN, i_Nle, i_eN, i_Ne, i_inN, i_l1, i_l2, mj_cpok, mj_nn, reduceCtorEq, lg_self, Nat.not_lt_zero, Nat.zero_le, Nat.reduceEqDiff, Nat.reduceLT, Nat.reduceLeDiff, true_or, or_true, false_or, or_false, not_true_eq_false, not_false_eq_true, true_imp_iff, false_imp_iff, and_self, wrd, u2, and_true, true_and, and_false, false_and, and_self, ite_true, ite_false, reduceIte]
        (repeat' (first | (with_reducible refine And.intro ?_ ?_) | (with_reducible intro _)))
        all_goals try omega
        refine s_157 G hr hA u1 (by omega) (by rw [show p + k + j + 1 = p + (k + j + 1) by omega]; exact u2) (fun y hy => ?_)
        simp (disch := omega) only [mK_v, e_159_46, e_159_48, e_159_51, i_lit, i_add, i_mul, i_m1, i_lt, i_le, i_eq, i_cl, i_in, i_ltN, i_Nlt, i_leN, i_Nle, i_eN, i_Ne, i_inN, i_l1, i_l2, mj_cpok, mj_nn, reduceCtorEq, lg_self, Nat.not_lt_zero, Nat.zero_le, Nat.reduceEqDiff, Nat.reduceLT, Nat.reduceLeDiff, true_or, or_true, false_or, or_false, not_true_eq_false, not_false_eq_true, true_imp_iff, false_imp_iff, and_self, wrd, u2, and_true, true_and, and_false, false_and, and_self, ite_true, ite_false, reduceIte]
        refine ih (j + 1) y (by omega) (fun q => ?_)
        rw [hy q]
        show _ ↔ (∃ t, _ ∧ _) ∧ _
        constructor
        · rintro ⟨⟨t, h2, h3⟩, h4⟩; exact ⟨⟨t, (hx t).mp h2, h3⟩, h4⟩
        · rintro ⟨⟨t, h2, h3⟩, h4⟩; exact ⟨⟨t, (hx t).mpr h2, h3⟩, h4⟩
    obtain ⟨u1, u2⟩ := hu k (by omega)
    simp (disch := omega) only [e_159_0, e_159_1, e_159_2, e_159_12, e_159_13, e_159_14, e_159_15, e_159_18, e_159_19, e_159_20, e_159_21, i_lit, i_add, i_mul, i_m1, i_lt, i_le, i_eq, i_cl, i_in, i_ltN, i_Nlt, i_leN, i_Nle, i_eN, i_Ne, i_inN, i_l1, i_l2, mj_cpok, mj_nn, reduceCtorEq, lg_self, Nat.not_lt_zero, Nat.zero_le, Nat.reduceEqDiff, Nat.reduceLT, Nat.reduceLeDiff, true_or, or_true, false_or, or_false, not_true_eq_false, not_false_eq_true, true_imp_iff, false_imp_iff, and_self, wrd, u2, and_true, true_and, and_false, false_and, and_self, ite_true, ite_false, reduceIte, g_654 G]
    (repeat' (first | (with_reducible refine And.intro ?_ ?_) | (with_reducible intro _)))
    all_goals try omega
    refine s_158 G hr hA u1 (by omega) u2 (fun y hy => ?_)
    simp (disch := omega) only [mK_v, e_159_24, e_159_26, e_159_27, e_159_28, e_159_29, i_lit, i_add, i_mul, i_m1, i_lt, i_le, i_eq, i_cl, i_in, i_ltN, i_Nlt, i_leN, i_Nle, i_eN, i_Ne, i_inN, i_l1, i_l2, mj_cpok, mj_nn, reduceCtorEq, lg_self, Nat.not_lt_zero, Nat.zero_le, Nat.reduceEqDiff, Nat.reduceLT, Nat.reduceLeDiff, true_or, or_true, false_or, or_false, not_true_eq_false, not_false_eq_true, true_imp_iff, false_imp_iff, and_self, wrd, u2, and_true, true_and, and_false, false_and, and_self, ite_true, ite_false, reduceIte]
    refine loop (L - 1 - k) 0 y (by omega) (fun q => ?_)
    rw [hy q]
    show _ ↔ (_ ∧ _) ∧ _
    constructor
    · rintro ⟨h2, h3⟩; exact ⟨⟨bt_lt h2, h2⟩, h3⟩
    · rintro ⟨⟨-, h2⟩, h3⟩; exact ⟨h2, h3⟩
theorem s_160 {r np tp p L : Nat} {u : Nat → Nat} (G : Gr w) (hr : r < 12) (hA : RuleA w r np tp) (hB : RuleB w r np) (hl1 : wAI w 133 r = Int32.ofNat 1) (hL : 1 ≤ L) (hpL : p + L ≤ 1000) (hu : ∀ i, i < L → u i < 8 ∧ wAI w 129 (p + i) = Int32.ofNat (97 + u i)) (hex : ∃ k, 1 ≤ k ∧ k ≤ L ∧ cutRw w r np L u k)
    (K : ∀ W k, Fr (fun _ _ => False) (fun a => a = 165) 0 0 w W → 1 ≤ k → k ≤ L → cutRw w r np L u k → (∀ j, k < j → j ≤ L → ¬ cutRw w r np L u j) → Q (.inl (some (vI (Int32.ofNat (p + k))))) W) :
    mR (d + 3) w 160 0 [some (vR (some (10, 0, 128))), some (vI (Int32.ofNat r)), some (vI (Int32.ofNat p)), some (vI (Int32.ofNat (p + L))), none, none] [] Q := by
  have e137 : wFI w 328 (6 + 3 * r) = wAI w 137 r := hA.2.2.2.2.2.2.2.2.2.1
  have e138 : wFI w 330 (6 + 3 * r) = wAI w 138 r := hA.2.2.2.2.2.2.2.2.2.2.1
  have back : ∀ (W : MWd) (x : Int32), Fr (fun _ _ => False) (fun a => a = 165) 0 0 w W → (∀ k, 1 ≤ k → k ≤ L → b01 (wAI W 165 (p + k)) ∧ (¬ wAI W 165 (p + k) = Int32.ofNat 0 ↔ ∃ q, tR u (rFi w r) (rFo w r np) (rLt w r np) (k - 1) q ∧ rLa w r q)) →
      ∀ (k : Nat), k ≤ L → (∀ j, k < j → j ≤ L → ¬ cutRw w r np L u j) → mR (d + 3) W 160 86 [some (vR (some (10, 0, 128))), some (vI (Int32.ofNat r)), some (vI (Int32.ofNat p)), some (vI (Int32.ofNat (p + L))), some (vI x), some (vI (Int32.ofNat (p + k)))] [] Q := by
    intro W x hF hc k
    have G' := Fr_Gr hF G
    induction k with
    | zero =>
      intro hk hno
      obtain ⟨j, h1, h2, h3⟩ := hex
      exact absurd h3 (hno j (by omega) h2)
    | succ k ih =>
      intro hk hno
      obtain ⟨hA', hB'⟩ : RuleA W r np tp ∧ RuleB W r np := by
        refine ⟨?_, ?_⟩
        · unfold RuleA
          rw [Fr_fi hF (by omega) (fun q => q), Fr_fi hF (by omega) (fun q => q), Fr_fi hF (by omega) (fun q => q), Fr_fi hF (by omega) (fun q => q), Fr_fi hF (by omega) (fun q => q), Fr_fi hF (by omega) (fun q => q), Fr_fi hF (by omega) (fun q => q), Fr_fi hF (by omega) (fun q => q), Fr_fi hF (by omega) (fun q => q),
            Fr_ai hF (a := 130) (by omega) (by omega), Fr_ai hF (a := 131) (by omega) (by omega), Fr_ai hF (a := 132) (by omega) (by omega), Fr_ai hF (a := 133) (by omega) (by omega), Fr_ai hF (a := 134) (by omega) (by omega), Fr_ai hF (a := 137) (by omega) (by omega), Fr_ai hF (a := 138) (by omega) (by omega), Fr_ai hF (a := 142) (by omega) (by omega)]
          exact hA
        · unfold RuleB
          rw [Fr_fi hF (by omega) (fun q => q), Fr_fi hF (by omega) (fun q => q), Fr_fi hF (by omega) (fun q => q), Fr_ai hF (a := 133) (by omega) (by omega), Fr_ai hF (a := 135) (by omega) (by omega), Fr_ai hF (a := 136) (by omega) (by omega), Fr_ai hF (a := 138) (by omega) (by omega), Fr_ai hF (a := 139) (by omega) (by omega), Fr_ai hF (a := 140) (by omega) (by omega), Fr_ai hF (a := 141) (by omega) (by omega), Fr_ai hF (a := 142) (by omega) (by omega), Fr_ai hF (a := 7 + 3 * r) (by omega) (by omega), Fr_ai hF (a := 8 + 3 * r) (by omega) (by omega)]
          exact hB
      have hck := hc (k + 1) (by omega) hk
      have cont : ¬ cutRw w r np L u (k + 1) → mR (d + 3) W 160 107 [some (vR (some (10, 0, 128))), some (vI (Int32.ofNat r)), some (vI (Int32.ofNat p)), some (vI (Int32.ofNat (p + L))), some (vI x), some (vI (Int32.ofNat (p + (k + 1))))] [] Q := by
        intro hnc
        have hdec : Int32.ofNat (p + (k + 1)) + NN = Int32.ofNat (p + k) := pd_dec (p + k + 1)
        simp (disch := omega) only [e_160_107, e_160_110, i_lit, i_add, i_mul, i_m1, i_lt, i_le, i_eq, i_cl, i_in, i_ltN, i_Nlt, i_leN, i_Nle, i_eN, i_Ne, i_inN, i_l1, i_l2, mj_cpok, mj_nn, reduceCtorEq, lg_self, Nat.not_lt_zero, Nat.zero_le, Nat.reduceEqDiff, Nat.reduceLT, Nat.reduceLeDiff, true_or, or_true, false_or, or_false, not_true_eq_false, not_false_eq_true, true_imp_iff, false_imp_iff, and_self, wrd, u2, and_true, true_and, and_false, false_and, and_self, ite_true, ite_false, reduceIte, hdec]
        refine ih (by omega) (fun j hj1 hj2 => ?_)
        by_cases hjk : j = k + 1
        · subst hjk; exact hnc
        · exact hno j (by omega) hj2
      rw [e_160_86]
      simp (disch := omega) only [e_160_87, e_160_90, e_160_92, e_160_93, e_160_96, e_160_97, e_160_98, e_160_100, e_160_101, i_lit, i_add, i_mul, i_m1, i_lt, i_le, i_eq, i_cl, i_in, i_ltN, i_Nlt, i_leN, i_Nle, i_eN, i_Ne, i_inN, i_l1, i_l2, mj_cpok, mj_nn, reduceCtorEq, lg_self, Nat.not_lt_zero, Nat.zero_le, Nat.reduceEqDiff, Nat.reduceLT, Nat.reduceLeDiff, true_or, or_true, false_or, or_false, not_true_eq_false, not_false_eq_true, true_imp_iff, false_imp_iff, and_self, wrd, u2, and_true, true_and, and_false, false_and, and_self, ite_true, ite_false, reduceIte, g_681 G']
      (repeat' (first | (with_reducible refine And.intro ?_ ?_) | (with_reducible intro _)))
      all_goals try omega
      · rename_i hz; exact cont fun hc2 => hck.2.mpr hc2.1 hz
      · rename_i hz
        have eAF : rAF W r = rAF w r := by funext q; unfold rAF; rw [Fr_ai hF (a := 139) (by omega) (by omega)]
        have eAL : rAL W r = rAL w r := by funext q; unfold rAL; rw [Fr_ai hF (a := 140) (by omega) (by omega)]
        have eFo : rFo W r np = rFo w r np := by funext a b; unfold rFo; rw [Fr_ai hF (a := 136) (by omega) (by omega)]
        have eLt : rLt W r np = rLt w r np := by funext a b; unfold rLt; rw [Fr_ai hF (a := 135) (by omega) (by omega)]
        have eCE : rCE W r = rCE w r := by unfold rCE; rw [Fr_ai hF (a := 141) (by omega) (by omega)]
        refine s_159 (k := k + 1) (L := L) (p := p) (u := u) G' hr hA' hB' hk hpL (fun i hi => by rw [Fr_ai hF (a := 129) (by omega) (by omega)]; exact hu i hi) (fun c1 c2 => ?_) (fun c0 => ?_)
        · rw [eCE] at c1
          rw [eAF, eAL, eFo, eLt] at c2
          simp (disch := omega) only [mK_v, e_160_104, e_160_113, e_160_115, i_lit, i_add, i_mul, i_m1, i_lt, i_le, i_eq, i_cl, i_in, i_ltN, i_Nlt, i_leN, i_Nle, i_eN, i_Ne, i_inN, i_l1, i_l2, mj_cpok, mj_nn, reduceCtorEq, lg_self, Nat.not_lt_zero, Nat.zero_le, Nat.reduceEqDiff, Nat.reduceLT, Nat.reduceLeDiff, true_or, or_true, false_or, or_false, not_true_eq_false, not_false_eq_true, true_imp_iff, false_imp_iff, and_self, wrd, u2, and_true, true_and, and_false, false_and, and_self, ite_true, ite_false, reduceIte]
          (repeat' (first | (with_reducible refine And.intro ?_ ?_) | (with_reducible intro _)))
          all_goals try omega
          exact K W (k + 1) hF (by omega) hk ⟨hck.2.mp hz, c1, c2⟩ hno
        · rw [eCE, eAF, eAL, eFo, eLt] at c0
          simp (disch := omega) only [mK_v, e_160_104, i_lit, i_add, i_mul, i_m1, i_lt, i_le, i_eq, i_cl, i_in, i_ltN, i_Nlt, i_leN, i_Nle, i_eN, i_Ne, i_inN, i_l1, i_l2, mj_cpok, mj_nn, reduceCtorEq, lg_self, Nat.not_lt_zero, Nat.zero_le, Nat.reduceEqDiff, Nat.reduceLT, Nat.reduceLeDiff, true_or, or_true, false_or, or_false, not_true_eq_false, not_false_eq_true, true_imp_iff, false_imp_iff, and_self, wrd, u2, and_true, true_and, and_false, false_and, and_self, ite_true, ite_false, reduceIte]
          exact cont fun hc2 => c0 ⟨hc2.2.1, hc2.2.2⟩
  have fwdL : ∀ (f q : Nat) (W : MWd) (x : Int32), q + f = L + 1 → 1 ≤ q → Fr (fun _ _ => False) (fun a => a = 165) 0 0 w W → (∀ k, 1 ≤ k → k < q → b01 (wAI W 165 (p + k)) ∧ (¬ wAI W 165 (p + k) = Int32.ofNat 0 ↔ ∃ t, tR u (rFi w r) (rFo w r np) (rLt w r np) (k - 1) t ∧ rLa w r t)) →
      (q ≤ L → ∀ t, bt x t = true ↔ tR u (rFi w r) (rFo w r np) (rLt w r np) (q - 1) t) → mR (d + 3) W 160 30 [some (vR (some (10, 0, 128))), some (vI (Int32.ofNat r)), some (vI (Int32.ofNat p)), some (vI (Int32.ofNat (p + L))), some (vI x), some (vI (Int32.ofNat (p + q)))] [] Q := by
    intro f
    induction f with
    | zero =>
      intro q W x hq hq1 hF g1 g2
      have bk := back W x hF (fun k h1 h2 => g1 k h1 (by omega)) L (Nat.le_refl L) (fun j h1 h2 => by omega)
      rw [e_160_30]
      simp (disch := omega) only [e_160_32, e_160_33, e_160_83, e_160_84, i_lit, i_add, i_mul, i_m1, i_lt, i_le, i_eq, i_cl, i_in, i_ltN, i_Nlt, i_leN, i_Nle, i_eN, i_Ne, i_inN, i_l1, i_l2, mj_cpok, mj_nn, reduceCtorEq, lg_self, Nat.not_lt_zero, Nat.zero_le, Nat.reduceEqDiff, Nat.reduceLT, Nat.reduceLeDiff, true_or, or_true, false_or, or_false, not_true_eq_false, not_false_eq_true, true_imp_iff, false_imp_iff, and_self, wrd, u2, and_true, true_and, and_false, false_and, and_self, ite_true, ite_false, reduceIte]
      (repeat' (first | (with_reducible refine And.intro ?_ ?_) | (with_reducible intro _)))
      all_goals first | omega | exact bk
    | succ f ih =>
      intro q W x hq hq1 hF g1 g2
      have G' := Fr_Gr hF G
      have a138 : wAI W 138 = wAI w 138 := Fr_ai hF (by omega) (by omega)
      have gx := g2 (by omega)
      have fin : ∀ (v : Int32), b01 v → (¬ v = Int32.ofNat 0 ↔ ∃ t, tR u (rFi w r) (rFo w r np) (rLt w r np) (q - 1) t ∧ rLa w r t) → mR (d + 3) (sAI W 165 (p + q) v) 160 60 [some (vR (some (10, 0, 128))), some (vI (Int32.ofNat r)), some (vI (Int32.ofNat p)), some (vI (Int32.ofNat (p + L))), some (vI x), some (vI (Int32.ofNat (p + q)))] [] Q := by
        intro v hv hv2
        have hF2 : Fr (fun _ _ => False) (fun a => a = 165) 0 0 w (sAI W 165 (p + q) v) := Fr_sAI hF (Or.inl rfl)
        have g1' : ∀ k, 1 ≤ k → k < q + 1 → b01 (wAI (sAI W 165 (p + q) v) 165 (p + k)) ∧ (¬ wAI (sAI W 165 (p + q) v) 165 (p + k) = Int32.ofNat 0 ↔ ∃ t, tR u (rFi w r) (rFo w r np) (rLt w r np) (k - 1) t ∧ rLa w r t) := by
          intro k hk1 hk2
          show b01 (u2 (wAI W) 165 (p + q) v 165 (p + k)) ∧ (¬ u2 (wAI W) 165 (p + q) v 165 (p + k) = Int32.ofNat 0 ↔ _)
          rw [u2_at]
          by_cases hkq : k = q
          · subst hkq; rw [if_pos rfl]; exact ⟨hv, hv2⟩
          · rw [if_neg (by omega)]; exact g1 k hk1 (by omega)
        by_cases hqL : q < L
        · have hA2 : RuleA (sAI W 165 (p + q) v) r np tp := by
            unfold RuleA
            rw [Fr_fi hF2 (by omega) (fun q => q), Fr_fi hF2 (by omega) (fun q => q), Fr_fi hF2 (by omega) (fun q => q), Fr_fi hF2 (by omega) (fun q => q), Fr_fi hF2 (by omega) (fun q => q), Fr_fi hF2 (by omega) (fun q => q), Fr_fi hF2 (by omega) (fun q => q), Fr_fi hF2 (by omega) (fun q => q), Fr_fi hF2 (by omega) (fun q => q),
              Fr_ai hF2 (a := 130) (by omega) (by omega), Fr_ai hF2 (a := 131) (by omega) (by omega), Fr_ai hF2 (a := 132) (by omega) (by omega), Fr_ai hF2 (a := 133) (by omega) (by omega), Fr_ai hF2 (a := 134) (by omega) (by omega), Fr_ai hF2 (a := 137) (by omega) (by omega), Fr_ai hF2 (a := 138) (by omega) (by omega), Fr_ai hF2 (a := 142) (by omega) (by omega)]
            exact hA
          obtain ⟨u1, u2'⟩ := hu q hqL
          have eFo : rFo (sAI W 165 (p + q) v) r np = rFo w r np := by funext a b; unfold rFo; rw [Fr_ai hF2 (a := 136) (by omega) (by omega)]
          have eLt : rLt (sAI W 165 (p + q) v) r np = rLt w r np := by funext a b; unfold rLt; rw [Fr_ai hF2 (a := 135) (by omega) (by omega)]
          rw [e_160_60]
          simp (disch := omega) only [e_160_62, e_160_63, e_160_66, e_160_67, e_160_68, e_160_70, e_160_72, i_lit, i_add, i_mul, i_m1, i_lt, i_le, i_eq, i_cl, i_in, i_ltN, i_Nlt, i_leN, i_Nle, i_eN, i_Ne, i_inN, i_l1, i_l2, mj_cpok, mj_nn, reduceCtorEq, lg_self, Nat.not_lt_zero, Nat.zero_le, Nat.reduceEqDiff, Nat.reduceLT, Nat.reduceLeDiff, true_or, or_true, false_or, or_false, not_true_eq_false, not_false_eq_true, true_imp_iff, false_imp_iff, and_self, wrd, u2, and_true, true_and, and_false, false_and, and_self, ite_true, ite_false, reduceIte]
          (repeat' (first | (with_reducible refine And.intro ?_ ?_) | (with_reducible intro _)))
          all_goals try omega
          refine s_157 (w := sAI W 165 (p + q) v) (G_sAI G') hr hA2 u1 (by omega) (by rw [Fr_ai hF2 (a := 129) (by omega) (by omega)]; exact u2') (fun y hy => ?_)
          rw [eFo, eLt] at hy
          simp (disch := omega) only [mK_v, e_160_75, e_160_77, e_160_80, i_lit, i_add, i_mul, i_m1, i_lt, i_le, i_eq, i_cl, i_in, i_ltN, i_Nlt, i_leN, i_Nle, i_eN, i_Ne, i_inN, i_l1, i_l2, mj_cpok, mj_nn, reduceCtorEq, lg_self, Nat.not_lt_zero, Nat.zero_le, Nat.reduceEqDiff, Nat.reduceLT, Nat.reduceLeDiff, true_or, or_true, false_or, or_false, not_true_eq_false, not_false_eq_true, true_imp_iff, false_imp_iff, and_self, wrd, u2, and_true, true_and, and_false, false_and, and_self, ite_true, ite_false, reduceIte]
          refine ih (q + 1) _ y (by omega) (by omega) hF2 g1' (fun _ t => ?_)
          rw [hy t, show q + 1 - 1 = (q - 1) + 1 by omega]
          show _ ↔ (∃ s, _ ∧ _) ∧ rLt w r np (u (q - 1 + 1)) t
          rw [show q - 1 + 1 = q by omega]
          constructor
          · rintro ⟨⟨s, h2, h3⟩, h4⟩; exact ⟨⟨s, (gx s).mp h2, h3⟩, h4⟩
          · rintro ⟨⟨s, h2, h3⟩, h4⟩; exact ⟨⟨s, (gx s).mpr h2, h3⟩, h4⟩
        · have nn := ih (q + 1) _ x (by omega) (by omega) hF2 g1' (fun h => by omega)
          rw [e_160_60]
          simp (disch := omega) only [e_160_62, e_160_63, e_160_77, e_160_80, i_lit, i_add, i_mul, i_m1, i_lt, i_le, i_eq, i_cl, i_in, i_ltN, i_Nlt, i_leN, i_Nle, i_eN, i_Ne, i_inN, i_l1, i_l2, mj_cpok, mj_nn, reduceCtorEq, lg_self, Nat.not_lt_zero, Nat.zero_le, Nat.reduceEqDiff, Nat.reduceLT, Nat.reduceLeDiff, true_or, or_true, false_or, or_false, not_true_eq_false, not_false_eq_true, true_imp_iff, false_imp_iff, and_self, wrd, u2, and_true, true_and, and_false, false_and, and_self, ite_true, ite_false, reduceIte]
          (repeat' (first | (with_reducible refine And.intro ?_ ?_) | (with_reducible intro _)))
          all_goals first | omega | exact nn
      have hex2 : ¬ x &&& wAI w 138 r = Int32.ofNat 0 ↔ ∃ t, tR u (rFi w r) (rFo w r np) (rLt w r np) (q - 1) t ∧ rLa w r t := by
        rw [and_ne]
        unfold rLa
        rw [e138]
        constructor
        · rintro ⟨t, h2, h3⟩; exact ⟨t, (gx t).mp h2, h3⟩
        · rintro ⟨t, h2, h3⟩; exact ⟨t, (gx t).mpr h2, h3⟩
      rw [e_160_30]
      simp (disch := omega) only [e_160_32, e_160_33, e_160_36, e_160_37, e_160_40, e_160_42, e_160_44, e_160_45, e_160_48, e_160_49, e_160_50, e_160_51, e_160_54, e_160_55, e_160_58, e_160_59, i_lit, i_add, i_mul, i_m1, i_lt, i_le, i_eq, i_cl, i_in, i_ltN, i_Nlt, i_leN, i_Nle, i_eN, i_Ne, i_inN, i_l1, i_l2, mj_cpok, mj_nn, reduceCtorEq, lg_self, Nat.not_lt_zero, Nat.zero_le, Nat.reduceEqDiff, Nat.reduceLT, Nat.reduceLeDiff, true_or, or_true, false_or, or_false, not_true_eq_false, not_false_eq_true, true_imp_iff, false_imp_iff, and_self, wrd, u2, and_true, true_and, and_false, false_and, and_self, ite_true, ite_false, reduceIte, g_681 G', g_653 G', a138]
      (repeat' (first | (with_reducible refine And.intro ?_ ?_) | (with_reducible intro _)))
      all_goals try omega
      · rename_i hz; exact fin _ (Or.inl rfl) (iff_of_false (fun q => q rfl) (fun q => hex2.mpr q hz))
      · rename_i hz; exact fin _ (Or.inr rfl) (iff_of_true (by decide) (hex2.mp hz))
  obtain ⟨u1, u2'⟩ := hu 0 (by omega)
  simp (disch := omega) only [e_160_0, e_160_1, e_160_4, e_160_5, e_160_6, e_160_11, e_160_12, e_160_13, e_160_14, e_160_17, e_160_18, e_160_19, e_160_20, i_lit, i_add, i_mul, i_m1, i_lt, i_le, i_eq, i_cl, i_in, i_ltN, i_Nlt, i_leN, i_Nle, i_eN, i_Ne, i_inN, i_l1, i_l2, mj_cpok, mj_nn, reduceCtorEq, lg_self, Nat.not_lt_zero, Nat.zero_le, Nat.reduceEqDiff, Nat.reduceLT, Nat.reduceLeDiff, true_or, or_true, false_or, or_false, not_true_eq_false, not_false_eq_true, true_imp_iff, false_imp_iff, and_self, wrd, u2, and_true, true_and, and_false, false_and, and_self, ite_true, ite_false, reduceIte, g_648 G, g_652 G, hl1]
  (repeat' (first | (with_reducible refine And.intro ?_ ?_) | (with_reducible intro _)))
  all_goals try omega
  refine s_158 G hr hA u1 (by omega) u2' (fun y hy => ?_)
  simp (disch := omega) only [mK_v, e_160_23, e_160_25, e_160_26, e_160_27, e_160_28, i_lit, i_add, i_mul, i_m1, i_lt, i_le, i_eq, i_cl, i_in, i_ltN, i_Nlt, i_leN, i_Nle, i_eN, i_Ne, i_inN, i_l1, i_l2, mj_cpok, mj_nn, reduceCtorEq, lg_self, Nat.not_lt_zero, Nat.zero_le, Nat.reduceEqDiff, Nat.reduceLT, Nat.reduceLeDiff, true_or, or_true, false_or, or_false, not_true_eq_false, not_false_eq_true, true_imp_iff, false_imp_iff, and_self, wrd, u2, and_true, true_and, and_false, false_and, and_self, ite_true, ite_false, reduceIte]
  refine fwdL L 1 w y (by omega) (Nat.le_refl 1) Fr_refl (fun k h1 h2 => by omega) (fun _ t => ?_)
  rw [hy t]
  show _ ↔ _ ∧ _
  unfold rFi
  rw [e137]
theorem s_160n {r np tp p q : Nat} (G : Gr w) (hr : r < 12) (hl0 : wAI w 133 r = Int32.ofNat 0) (h : Q (.inl (some (vI (Int32.ofNat q)))) w) :
    mR (d + 3) w 160 0 [some (vR (some (10, 0, 128))), some (vI (Int32.ofNat r)), some (vI (Int32.ofNat p)), some (vI (Int32.ofNat q)), none, none] [] Q := by
  simp (disch := omega) only [e_160_0, e_160_1, e_160_4, e_160_5, e_160_6, e_160_9, e_160_10, i_lit, i_add, i_mul, i_m1, i_lt, i_le, i_eq, i_cl, i_in, i_ltN, i_Nlt, i_leN, i_Nle, i_eN, i_Ne, i_inN, i_l1, i_l2, mj_cpok, mj_nn, reduceCtorEq, lg_self, Nat.not_lt_zero, Nat.zero_le, Nat.reduceEqDiff, Nat.reduceLT, Nat.reduceLeDiff, true_or, or_true, false_or, or_false, not_true_eq_false, not_false_eq_true, true_imp_iff, false_imp_iff, and_self, wrd, u2, and_true, true_and, and_false, false_and, and_self, ite_true, ite_false, reduceIte, g_648 G, hl0]
  (repeat' (first | (with_reducible refine And.intro ?_ ?_) | (with_reducible intro _)))
  all_goals first | omega | exact h
end SC
