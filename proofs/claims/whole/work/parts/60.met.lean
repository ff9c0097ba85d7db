/-! Questions to a machine: isMet. -/
def ClsA (w : MWd) (c m n : Nat) (mv an : Nat → Option Nat) : Prop := n ≤ 100 ∧ wFI w 71 (c + 2 + 8 * m) = Int32.ofNat n ∧ (∀ s, s < n → wAI w (c + 4 + 8 * m) s = en (an s)) ∧ (∀ s l, s < n → l < 8 → wAI w (c + 3 + 8 * m) (8 * s + l) = en (mv (8 * s + l)))
def RefA (w : MWd) (m n : Nat) (mv an : Nat → Option Nat) : Prop := n ≤ 100 ∧ wAI w 143 m = Int32.ofNat n ∧ (∀ s, s < n → wAI w (145 + m) (9 * s) = en (an s)) ∧ (∀ s l, s < n → l < 8 → wAI w (145 + m) (9 * s + 1 + l) = en (mv (8 * s + l)))
theorem ClsA_of {w : MWd} {c m n : Nat} {mv an : Nat → Option Nat} (h : MachA w c m n mv an) : ClsA w c m n mv an := ⟨h.1, h.2.1, fun s hs => (h.2.2.2.1 s hs).1, fun s l hs hl => (h.2.2.2.2 s l hs hl).1⟩
theorem RefA_of {w : MWd} {c m n : Nat} {mv an : Nat → Option Nat} (h : MachA w c m n mv an) : RefA w m n mv an := ⟨h.1, h.2.2.1, fun s hs => (h.2.2.2.1 s hs).2, fun s l hs hl => (h.2.2.2.2 s l hs hl).2⟩
theorem en_eq {x : Option Nat} {r : Nat} (hr : r < 2147483648) (hx : ∀ q, x = some q → q < 2147483648) : en x = Int32.ofNat r ↔ x = some r := by
  cases x with
  | none => exact iff_of_false (fun h => (i_Ne hr).mp h) (fun h => by cases h)
  | some q =>
    show Int32.ofNat q = Int32.ofNat r ↔ _
    rw [i_eq (hx q rfl) hr, Option.some.injEq]
theorem en_N {x : Option Nat} (hx : ∀ q, x = some q → q < 2147483648) : en x = NN ↔ x = none := by
  cases x with
  | none => exact iff_of_true rfl rfl
  | some q => exact iff_of_false (fun h => (i_eN (hx q rfl)).mp h) (fun h => by cases h)
theorem l_19 {d c m n r : Nat} {w : MWd} {mv an : Nat → Option Nat} {Q : MRes → MWd → Prop} (hgs : grS w c) (hm : m < 4) (hA : ClsA w c m n mv an) (hr : r < 12) (hb : ∀ s q, s < n → an s = some q → q < 12)
    (h1 : ∀ s, s < n → an s = some r → (∀ j, j < s → an j ≠ some r) → Q (.inl (some (vI (Int32.ofNat s)))) w) (h2 : (∀ j, j < n → an j ≠ some r) → Q (.inl (some (vI NN))) w) :
    ∀ (k s : Nat), s + k = n → (∀ j, j < s → an j ≠ some r) → mR d w 19 2 [some (vR (some (1, 0, c + 2 + 8 * m))), some (vI (Int32.ofNat r)), some (vI (Int32.ofNat s))] [] Q
  | 0, s, hs, hf => by
    have hn := hA.1
    rw [e_19_2]
    simp (disch := omega) only [e_19_0, e_19_1, e_19_3, e_19_4, e_19_7, e_19_10, e_19_11, e_19_13, e_19_16, e_19_17, e_19_20, e_19_21, e_19_22, e_19_23, e_19_26, e_19_27, e_19_28, e_19_31, e_19_34, e_19_35, hA.2.1, i_lit, i_add, i_mul, i_m1, i_lt, i_le, i_eq, i_cl, i_in, i_ltN, i_Nlt, i_leN, i_Nle, i_eN, i_Ne, i_inN, i_l1, i_l2]
    exact ⟨fun _ => h2 fun j hj => hf j (by omega), fun q => by omega⟩
  | k + 1, s, hs, hf => by
    have hn := hA.1
    have ha := hA.2.2.1 s (by omega)
    rw [e_19_2]
    simp (disch := omega) only [e_19_0, e_19_1, e_19_3, e_19_4, e_19_7, e_19_10, e_19_11, e_19_13, e_19_16, e_19_17, e_19_20, e_19_21, e_19_22, e_19_23, e_19_26, e_19_27, e_19_28, e_19_31, e_19_34, e_19_35, hA.2.1, i_lit, i_add, i_mul, i_m1, i_lt, i_le, i_eq, i_cl, i_in, i_ltN, i_Nlt, i_leN, i_Nle, i_eN, i_Ne, i_inN, i_l1, i_l2, gs_65 hgs hm, ha]
    rw [en_eq (by omega) (fun q hq => by have := hb s q (by omega) hq; omega)]
    refine ⟨fun q => by omega, fun _ => ⟨fun q => by omega, fun _ => ⟨by omega, fun hne => ?_, fun he => h1 s (by omega) he hf⟩⟩⟩
    refine l_19 hgs hm hA hr hb h1 h2 k (s + 1) (by omega) fun j hj => ?_
    by_cases hj' : j = s
    · subst hj'; exact hne
    · exact hf j (by omega)
theorem s_19 {d c m n r : Nat} {w : MWd} {mv an : Nat → Option Nat} {Q : MRes → MWd → Prop} (hgs : grS w c) (hm : m < 4) (hA : ClsA w c m n mv an) (hr : r < 12) (hb : ∀ s q, s < n → an s = some q → q < 12)
    (h1 : ∀ s, s < n → an s = some r → (∀ j, j < s → an j ≠ some r) → Q (.inl (some (vI (Int32.ofNat s)))) w) (h2 : (∀ j, j < n → an j ≠ some r) → Q (.inl (some (vI NN))) w) :
    mR d w 19 0 [some (vR (some (1, 0, c + 2 + 8 * m))), some (vI (Int32.ofNat r)), none] [] Q := by
  rw [e_19_0, e_19_1]
  exact l_19 hgs hm hA hr hb h1 h2 n 0 (by omega) fun j hj => absurd hj (Nat.not_lt_zero j)
theorem l_153 {d m n r nb : Nat} {w : MWd} {mv an : Nat → Option Nat} {Q : MRes → MWd → Prop} (G : Gr w) (hm : m < 4) (hA : RefA w m n mv an) (hr : r < nb) (hnb : nb ≤ 12) (hb : ∀ s q, s < n → an s = some q → q < 12)
    (ht : wFI w 640 128 = Int32.ofNat 0) (hbr : wFI w 664 128 = Int32.ofNat nb) (hmd : wAI w 130 r = Int32.ofNat m)
    (h1 : (∃ s, s < n ∧ an s = some r) → Q (.inl (some (vI (Int32.ofNat 1)))) w) (h2 : (¬ ∃ s, s < n ∧ an s = some r) → Q (.inl (some (vI (Int32.ofNat 0)))) w) :
    ∀ (k s : Nat) (b : Int32), s + k = n → (b = Int32.ofNat 1 ∧ (∃ j, j < s ∧ an j = some r) ∨ b = Int32.ofNat 0 ∧ ¬ ∃ j, j < s ∧ an j = some r) →
      mR (d + 3) w 153 21 [some (vR (some (10, 0, 128))), some (vI (Int32.ofNat r)), some (vI b), some (vI (Int32.ofNat s))] [] Q
  | 0, s, b, hs, hf => by
    have hn := hA.1
    have he : s = n := by omega
    subst he
    rw [e_153_21]
    rcases hf with ⟨rfl, hf⟩ | ⟨rfl, hf⟩
    · simp (disch := omega) only [e_153_0, e_153_1, e_153_2, e_153_3, e_153_6, e_153_9, e_153_10, e_153_13, e_153_14, e_153_17, e_153_18, e_153_19, e_153_20, e_153_22, e_153_25, e_153_28, e_153_29, e_153_30, e_153_31, e_153_34, e_153_37, e_153_38, e_153_41, e_153_42, e_153_45, e_153_46, e_153_49, e_153_50, e_153_51, e_153_52, e_153_54, e_153_55, e_153_56, e_153_57, e_153_58, e_153_61, e_153_62, e_153_65, e_153_66, e_153_67, e_153_70, e_153_73, e_153_74, e_152_0, e_152_1, e_152_2, e_152_5, e_152_8, e_152_9, e_152_12, e_152_13, e_152_16, e_152_17, e_152_18, e_152_19, e_152_22, e_152_23, hA.2.1, i_lit, i_add, i_mul, i_m1, i_lt, i_le, i_eq, i_cl, i_in, i_ltN, i_Nlt, i_leN, i_Nle, i_eN, i_Ne, i_inN, i_l1, i_l2, mj_cpok, mj_nn, reduceCtorEq, lg_self, Nat.not_lt_zero, Nat.zero_le, Nat.reduceEqDiff, Nat.reduceLT, Nat.reduceLeDiff, true_or, or_true, false_or, or_false, not_true_eq_false, not_false_eq_true, true_imp_iff, false_imp_iff, and_self, wrd, u2, and_true, true_and, and_false, false_and, and_self, ite_true, ite_false, reduceIte, ht, hbr, hmd, g_665 G, g_645 G, mK_v]
      (repeat' (first | (with_reducible refine And.intro ?_ ?_) | (with_reducible intro _)))
      all_goals first | omega | exact h1 hf
    · simp (disch := omega) only [e_153_0, e_153_1, e_153_2, e_153_3, e_153_6, e_153_9, e_153_10, e_153_13, e_153_14, e_153_17, e_153_18, e_153_19, e_153_20, e_153_22, e_153_25, e_153_28, e_153_29, e_153_30, e_153_31, e_153_34, e_153_37, e_153_38, e_153_41, e_153_42, e_153_45, e_153_46, e_153_49, e_153_50, e_153_51, e_153_52, e_153_54, e_153_55, e_153_56, e_153_57, e_153_58, e_153_61, e_153_62, e_153_65, e_153_66, e_153_67, e_153_70, e_153_73, e_153_74, e_152_0, e_152_1, e_152_2, e_152_5, e_152_8, e_152_9, e_152_12, e_152_13, e_152_16, e_152_17, e_152_18, e_152_19, e_152_22, e_152_23, hA.2.1, i_lit, i_add, i_mul, i_m1, i_lt, i_le, i_eq, i_cl, i_in, i_ltN, i_Nlt, i_leN, i_Nle, i_eN, i_Ne, i_inN, i_l1, i_l2, mj_cpok, mj_nn, reduceCtorEq, lg_self, Nat.not_lt_zero, Nat.zero_le, Nat.reduceEqDiff, Nat.reduceLT, Nat.reduceLeDiff, true_or, or_true, false_or, or_false, not_true_eq_false, not_false_eq_true, true_imp_iff, false_imp_iff, and_self, wrd, u2, and_true, true_and, and_false, false_and, and_self, ite_true, ite_false, reduceIte, ht, hbr, hmd, g_665 G, g_645 G, mK_v]
      (repeat' (first | (with_reducible refine And.intro ?_ ?_) | (with_reducible intro _)))
      all_goals first | omega | exact h2 hf
  | k + 1, s, b, hs, hf => by
    have hn := hA.1
    have ha := hA.2.2.1 s (by omega)
    have hae := en_eq (x := an s) (r := r) (by omega) (fun q hq => by have := hb s q (by omega) hq; omega)
    have ih := l_153 (d := d) G hm hA hr hnb hb ht hbr hmd h1 h2 k (s + 1)
    rw [e_153_21]
    rcases hf with ⟨rfl, j, hj, hf⟩ | ⟨rfl, hf⟩
    · simp (disch := omega) only [e_153_0, e_153_1, e_153_2, e_153_3, e_153_6, e_153_9, e_153_10, e_153_13, e_153_14, e_153_17, e_153_18, e_153_19, e_153_20, e_153_22, e_153_25, e_153_28, e_153_29, e_153_30, e_153_31, e_153_34, e_153_37, e_153_38, e_153_41, e_153_42, e_153_45, e_153_46, e_153_49, e_153_50, e_153_51, e_153_52, e_153_54, e_153_55, e_153_56, e_153_57, e_153_58, e_153_61, e_153_62, e_153_65, e_153_66, e_153_67, e_153_70, e_153_73, e_153_74, e_152_0, e_152_1, e_152_2, e_152_5, e_152_8, e_152_9, e_152_12, e_152_13, e_152_16, e_152_17, e_152_18, e_152_19, e_152_22, e_152_23, hA.2.1, i_lit, i_add, i_mul, i_m1, i_lt, i_le, i_eq, i_cl, i_in, i_ltN, i_Nlt, i_leN, i_Nle, i_eN, i_Ne, i_inN, i_l1, i_l2, mj_cpok, mj_nn, reduceCtorEq, lg_self, Nat.not_lt_zero, Nat.zero_le, Nat.reduceEqDiff, Nat.reduceLT, Nat.reduceLeDiff, true_or, or_true, false_or, or_false, not_true_eq_false, not_false_eq_true, true_imp_iff, false_imp_iff, and_self, wrd, u2, and_true, true_and, and_false, false_and, and_self, ite_true, ite_false, reduceIte, ht, hbr, hmd, g_665 G, g_645 G, g_666 G, g_mach G hm, mK_v, ha, hae]
      (repeat' (first | (with_reducible refine And.intro ?_ ?_) | (with_reducible intro _)))
      all_goals first | omega | exact ih _ (by omega) (Or.inl ⟨rfl, j, by omega, hf⟩)
    · by_cases he : an s = some r
      · rw [he] at ha
        replace ha : wAI w (145 + m) (9 * s) = Int32.ofNat r := ha
        simp (disch := omega) only [e_153_0, e_153_1, e_153_2, e_153_3, e_153_6, e_153_9, e_153_10, e_153_13, e_153_14, e_153_17, e_153_18, e_153_19, e_153_20, e_153_22, e_153_25, e_153_28, e_153_29, e_153_30, e_153_31, e_153_34, e_153_37, e_153_38, e_153_41, e_153_42, e_153_45, e_153_46, e_153_49, e_153_50, e_153_51, e_153_52, e_153_54, e_153_55, e_153_56, e_153_57, e_153_58, e_153_61, e_153_62, e_153_65, e_153_66, e_153_67, e_153_70, e_153_73, e_153_74, e_152_0, e_152_1, e_152_2, e_152_5, e_152_8, e_152_9, e_152_12, e_152_13, e_152_16, e_152_17, e_152_18, e_152_19, e_152_22, e_152_23, hA.2.1, i_lit, i_add, i_mul, i_m1, i_lt, i_le, i_eq, i_cl, i_in, i_ltN, i_Nlt, i_leN, i_Nle, i_eN, i_Ne, i_inN, i_l1, i_l2, mj_cpok, mj_nn, reduceCtorEq, lg_self, Nat.not_lt_zero, Nat.zero_le, Nat.reduceEqDiff, Nat.reduceLT, Nat.reduceLeDiff, true_or, or_true, false_or, or_false, not_true_eq_false, not_false_eq_true, true_imp_iff, false_imp_iff, and_self, wrd, u2, and_true, true_and, and_false, false_and, and_self, ite_true, ite_false, reduceIte, ht, hbr, hmd, g_665 G, g_645 G, g_666 G, g_mach G hm, mK_v, ha]
        (repeat' (first | (with_reducible refine And.intro ?_ ?_) | (with_reducible intro _)))
        all_goals first | omega | exact ih _ (by omega) (Or.inl ⟨rfl, s, by omega, he⟩)
      · have hae' : (en (an s) = Int32.ofNat r) = False := eq_false (fun q => he (hae.mp q))
        simp (disch := omega) only [e_153_0, e_153_1, e_153_2, e_153_3, e_153_6, e_153_9, e_153_10, e_153_13, e_153_14, e_153_17, e_153_18, e_153_19, e_153_20, e_153_22, e_153_25, e_153_28, e_153_29, e_153_30, e_153_31, e_153_34, e_153_37, e_153_38, e_153_41, e_153_42, e_153_45, e_153_46, e_153_49, e_153_50, e_153_51, e_153_52, e_153_54, e_153_55, e_153_56, e_153_57, e_153_58, e_153_61, e_153_62, e_153_65, e_153_66, e_153_67, e_153_70, e_153_73, e_153_74, e_152_0, e_152_1, e_152_2, e_152_5, e_152_8, e_152_9, e_152_12, e_152_13, e_152_16, e_152_17, e_152_18, e_152_19, e_152_22, e_152_23, hA.2.1, i_lit, i_add, i_mul, i_m1, i_lt, i_le, i_eq, i_cl, i_in, i_ltN, i_Nlt, i_leN, i_Nle, i_eN, i_Ne, i_inN, i_l1, i_l2, mj_cpok, mj_nn, reduceCtorEq, lg_self, Nat.not_lt_zero, Nat.zero_le, Nat.reduceEqDiff, Nat.reduceLT, Nat.reduceLeDiff, true_or, or_true, false_or, or_false, not_true_eq_false, not_false_eq_true, true_imp_iff, false_imp_iff, and_self, wrd, u2, and_true, true_and, and_false, false_and, and_self, ite_true, ite_false, reduceIte, ht, hbr, hmd, g_665 G, g_645 G, g_666 G, g_mach G hm, mK_v, ha, hae']
        (repeat' (first | (with_reducible refine And.intro ?_ ?_) | (with_reducible intro _)))
        all_goals first
          | omega
          | (refine ih _ (by omega) (Or.inr ⟨rfl, ?_⟩)
             rintro ⟨j, hj, hj'⟩
             by_cases hjs : j = s
             · subst hjs; exact he hj'
             · exact hf ⟨j, by omega, hj'⟩)
theorem s_153 {d m n r nr nb : Nat} {w : MWd} {mv an : Nat → Option Nat} {Q : MRes → MWd → Prop} (G : Gr w) (hm : m < 4) (hA : RefA w m n mv an) (hr : r < nb) (hnb : nb ≤ nr) (hnr : nr ≤ 12) (hb : ∀ s q, s < n → an s = some q → q < 12)
    (hrr : wFI w 644 128 = Int32.ofNat nr) (hbr : wFI w 664 128 = Int32.ofNat nb) (hmd : wAI w 130 r = Int32.ofNat m)
    (h1 : (∃ s, s < n ∧ an s = some r) → Q (.inl (some (vI (Int32.ofNat 1)))) (sFI w 640 128 (Int32.ofNat 0))) (h2 : (¬ ∃ s, s < n ∧ an s = some r) → Q (.inl (some (vI (Int32.ofNat 0)))) (sFI w 640 128 (Int32.ofNat 0))) :
    mR (d + 3) w 153 0 [some (vR (some (10, 0, 128))), some (vI (Int32.ofNat r)), none, none] [] Q := by
  simp (disch := omega) only [e_153_0, e_153_1, e_153_2, e_153_3, e_153_6, e_153_9, e_153_10, e_153_13, e_153_14, e_153_17, e_153_18, e_153_19, e_153_20, e_153_22, e_153_25, e_153_28, e_153_29, e_153_30, e_153_31, e_153_34, e_153_37, e_153_38, e_153_41, e_153_42, e_153_45, e_153_46, e_153_49, e_153_50, e_153_51, e_153_52, e_153_54, e_153_55, e_153_56, e_153_57, e_153_58, e_153_61, e_153_62, e_153_65, e_153_66, e_153_67, e_153_70, e_153_73, e_153_74, e_151_0, e_151_1, e_151_2, e_151_3, e_151_6, e_151_7, e_151_8, e_151_11, e_111_0, e_111_1, e_111_2, e_111_5, e_111_6, e_111_7, e_111_10, e_111_11, e_111_14, e_111_15, i_lit, i_add, i_mul, i_m1, i_lt, i_le, i_eq, i_cl, i_in, i_ltN, i_Nlt, i_leN, i_Nle, i_eN, i_Ne, i_inN, i_l1, i_l2, mj_cpok, mj_nn, reduceCtorEq, lg_self, Nat.not_lt_zero, Nat.zero_le, Nat.reduceEqDiff, Nat.reduceLT, Nat.reduceLeDiff, true_or, or_true, false_or, or_false, not_true_eq_false, not_false_eq_true, true_imp_iff, false_imp_iff, and_self, wrd, u2, and_true, true_and, and_false, false_and, and_self, ite_true, ite_false, reduceIte, hrr, mK_v]
  (repeat' (first | (with_reducible refine And.intro ?_ ?_) | (with_reducible intro _)))
  all_goals try first | omega
  exact l_153 (w := sFI w 640 128 (Int32.ofNat 0)) (d := d) (G_sFI G) hm hA hr (by omega) hb rfl hbr hmd h1 h2 n 0 _ (by omega) (Or.inr ⟨rfl, fun ⟨j, hj, _⟩ => absurd hj (Nat.not_lt_zero j)⟩)
