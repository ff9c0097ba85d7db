/-! build: the reference numbers its classes. -/
section RN
variable {d n m : Nat} {w : MWd} {Q : MRes → MWd → Prop} {A : Nat → Int32} {mv : Nat → Option Nat} {kd cl : Nat → Nat}
abbrev rnFr (m : Nat) (w w' : MWd) : Prop := Fr (fun _ _ => False) (fun a => a = 159 ∨ a = 149 ∨ a = 151 + m) 0 0 w w'
def rnI (w : MWd) (m n : Nat) (kd : Nat → Nat) (mv : Nat → Option Nat) (t : Nat) (W : MWd) : Prop := rnFr m w W ∧ (∀ k, k < (nSt kd mv t).1 → ∃ o, o < n ∧ kd o = (nSt kd mv t).2 k ∧ wAI W 159 k = Int32.ofNat o) ∧ (∀ q, q < t → wAI W (151 + m) (9 * (q / 8) + 1 + q % 8) = en (nMv kd mv q))
def rnA (m : Nat) (A : Nat → Int32) (kd : Nat → Nat) (mv : Nat → Option Nat) (s t : Nat) (W : MWd) : Prop := ∀ k, k < s → wAI W (151 + m) (9 * k) = A ((nSt kd mv t).2 k)
theorem Pm_some {P : Nat → Nat → Prop} {x y : Option Nat} (h : Pm P x y) : (x = none ∧ y = none) ∨ ∃ a b, x = some a ∧ y = some b ∧ P a b := by
  cases x with
  | none => cases y with
    | none => exact Or.inl ⟨rfl, rfl⟩
    | some b => exact h.elim
  | some a => cases y with
    | none => exact h.elim
    | some b => exact Or.inr ⟨a, b, rfl, rfl, h⟩
theorem s_144 (G : Gr w) (hm : m < 4) (hF : CF w n A mv) (hcl : ∀ i, i < n → wAI w 158 i = Int32.ofNat (cl i) ∧ cl i < n) (hce : ∀ i j, i < n → j < n → (cl i = cl j ↔ Pe A mv i j)) (hLe : ∀ i, i < n → Le A mv i (kd i)) (hn2 : 2 ≤ n)
    (K : ∀ W N, nEnd kd mv N → N ≤ 100 → rnI w m n kd mv (8 * N) W → rnA m A kd mv N (8 * N) W → wAI W 149 m = Int32.ofNat N → (∀ j, j ≠ m → wAI W 149 j = wAI w 149 j) → Q (.inl none) W) :
    mR d w 144 0 [some (vR (some (10, 0, 128))), some (vI (Int32.ofNat m)), none, none, none, none, none] [] Q := by
  have hF' := hF
  obtain ⟨f1, f2, f3, f4, f5, f6⟩ := hF
  have hkl : ∀ i, i < n → kd i < n := fun i hi => by have := (hLe i hi).1; omega
  have kce : ∀ i j, i < n → j < n → (cl i = cl j ↔ kd i = kd j) := fun i j hi hj => (hce i j hi hj).trans (Le_iff (hLe i hi) (hLe j hj)).symm
  have h21 : ∀ (s : Nat) (W : MWd) (l4 l5 l6 : Option MV), rnI w m n kd mv (8 * s) W → rnA m A kd mv s (8 * s) W → wAI W 149 = wAI w 149 → (∀ q, q < s → q < (nSt kd mv (8 * q)).1) → s ≤ (nSt kd mv (8 * s)).1 → (nSt kd mv (8 * s)).1 ≤ n →
      (∀ W', rnI w m n kd mv (8 * s) W' → rnA m A kd mv (s + 1) (8 * s) W' → wAI W' 149 = wAI w 149 → s < (nSt kd mv (8 * s)).1 → mR d W' 144 51 [some (vR (some (10, 0, 128))), some (vI (Int32.ofNat m)), some (vI (Int32.ofNat (nSt kd mv (8 * s)).1)), some (vI (Int32.ofNat s)), some (vI (Int32.ofNat 0)), l5, l6] [] Q) →
      mR d W 144 21 [some (vR (some (10, 0, 128))), some (vI (Int32.ofNat m)), some (vI (Int32.ofNat (nSt kd mv (8 * s)).1)), some (vI (Int32.ofNat s)), l4, l5, l6] [] Q := by
    intro s W l4 l5 l6 hI hA h149 hP hs hb KK
    have hI' := hI
    obtain ⟨hW, i1, i2⟩ := hI
    have G' := Fr_Gr hW G
    rw [e_144_21]
    by_cases hlt : s < (nSt kd mv (8 * s)).1
    · obtain ⟨o, ho, hoe, e159⟩ := i1 s hlt
      have e156 : wAI W 156 o = A o := by rw [Fr_ai hW (by decide) (by omega)]; exact f4 o ho
      have hAo : A o = A ((nSt kd mv (8 * s)).2 s) := by rw [← hoe]; exact (Pe_ans (hLe o ho).2.1).symm
      simp (disch := omega) only [e_144_22, e_144_23, e_144_26, e_144_27, e_144_30, e_144_31, e_144_32, e_144_34, e_144_35, e_144_36, e_144_37, e_144_40, e_144_41, e_144_44, e_144_45, e_144_46, e_144_47, e_144_48, e_144_49, i_lit, i_add, i_mul, i_m1, i_lt, i_le, i_eq, i_cl, i_in, i_ltN, i_Nlt, i_leN, i_Nle, i_eN, i_Ne, i_inN, i_l1, i_l2, mj_cpok, mj_nn, reduceCtorEq, lg_self, Nat.not_lt_zero, Nat.zero_le, Nat.reduceEqDiff, Nat.reduceLT, Nat.reduceLeDiff, true_or, or_true, false_or, or_false, not_true_eq_false, not_false_eq_true, true_imp_iff, false_imp_iff, and_self, wrd, u2, and_true, true_and, and_false, false_and, and_self, ite_true, ite_false, reduceIte, g_668 G', g_made G' hm, g_671 G', g_674 G', e159, e156]
      (repeat' (first | (with_reducible refine And.intro ?_ ?_) | (with_reducible intro _)))
      all_goals try omega
      refine KK _ ⟨Fr_sAI hW (Or.inl (Or.inr (Or.inr rfl))), fun k hk => ?_, fun q hq => ?_⟩ (fun k hk => ?_) ?_ hlt
      · obtain ⟨o', a1, a2, a3⟩ := i1 k hk
        exact ⟨o', a1, a2, by rw [sAI_row (by omega)]; exact a3⟩
      · show u2 (wAI W) (151 + m) (9 * s) (A o) (151 + m) _ = _
        rw [u2_at, if_neg (by omega)]; exact i2 q hq
      · show u2 (wAI W) (151 + m) (9 * s) (A o) (151 + m) _ = _
        rw [u2_at]
        by_cases hks : k = s
        · subst hks; rw [if_pos rfl]; exact hAo
        · rw [if_neg (by omega)]; exact hA k (by omega)
      · rw [sAI_row (by omega)]; exact h149
    · have hse : (nSt kd mv (8 * s)).1 = s := by omega
      rw [hse]
      simp (disch := omega) only [e_144_22, e_144_23, e_144_183, e_144_184, e_144_187, e_144_188, e_144_189, e_144_190, i_lit, i_add, i_mul, i_m1, i_lt, i_le, i_eq, i_cl, i_in, i_ltN, i_Nlt, i_leN, i_Nle, i_eN, i_Ne, i_inN, i_l1, i_l2, mj_cpok, mj_nn, reduceCtorEq, lg_self, Nat.not_lt_zero, Nat.zero_le, Nat.reduceEqDiff, Nat.reduceLT, Nat.reduceLeDiff, true_or, or_true, false_or, or_false, not_true_eq_false, not_false_eq_true, true_imp_iff, false_imp_iff, and_self, wrd, u2, and_true, true_and, and_false, false_and, and_self, ite_true, ite_false, reduceIte, g_667 G']
      (repeat' (first | (with_reducible refine And.intro ?_ ?_) | (with_reducible intro _)))
      all_goals try omega
      refine K _ s ⟨hP, hse⟩ (by omega) ⟨Fr_sAI hW (Or.inl (Or.inr (Or.inl rfl))), fun k hk => ?_, fun q hq => ?_⟩ (fun k hk => ?_) (by simp only [mj_cpok, mj_nn, reduceCtorEq, lg_self, Nat.not_lt_zero, Nat.zero_le, Nat.reduceEqDiff, Nat.reduceLT, Nat.reduceLeDiff, true_or, or_true, false_or, or_false, not_true_eq_false, not_false_eq_true, true_imp_iff, false_imp_iff, and_self, wrd, u2, and_true, true_and, and_false, false_and, and_self, ite_true, ite_false, reduceIte]) (fun j hj => ?_)
      · obtain ⟨o', a1, a2, a3⟩ := i1 k hk
        exact ⟨o', a1, a2, by rw [sAI_row (by omega)]; exact a3⟩
      · rw [sAI_row (by omega)]; exact i2 q hq
      · rw [sAI_row (by omega)]; exact hA k hk
      · simp only [mj_cpok, mj_nn, reduceCtorEq, lg_self, Nat.not_lt_zero, Nat.zero_le, Nat.reduceEqDiff, Nat.reduceLT, Nat.reduceLeDiff, true_or, or_true, false_or, or_false, not_true_eq_false, not_false_eq_true, true_imp_iff, false_imp_iff, and_self, wrd, u2, and_true, true_and, and_false, false_and, and_self, ite_true, ite_false, reduceIte, hj]; rw [h149]
  have h51 : ∀ (f s l : Nat) (W : MWd) (l5 l6 : Option MV), 8 * s + l + f = 800 → l < 8 → rnI w m n kd mv (8 * s + l) W → rnA m A kd mv (s + 1) (8 * s + l) W → wAI W 149 = wAI w 149 → (∀ q, q ≤ s → q < (nSt kd mv (8 * q)).1) →
      mR d W 144 51 [some (vR (some (10, 0, 128))), some (vI (Int32.ofNat m)), some (vI (Int32.ofNat (nSt kd mv (8 * s + l)).1)), some (vI (Int32.ofNat s)), some (vI (Int32.ofNat l)), l5, l6] [] Q := by
    intro f
    induction f with
    | zero =>
      intro s l W l5 l6 hf hl hI hA h149 hP
      exfalso
      have h1 := hP s (Nat.le_refl s)
      have h2 := (nSt_bd hkl f1 f6 (run_lt hP (show 8 * s ≤ 8 * s + 8 by omega))).2
      omega
    | succ f ih =>
      intro s l W l5 l6 hf hl hI hA h149 hP
      have hI' := hI
      obtain ⟨hW, i1, i2⟩ := hI
      have G' := Fr_Gr hW G
      obtain ⟨bv, bn⟩ := nSt_bd hkl f1 f6 (run_lt hP (show 8 * s + l ≤ 8 * s + 8 by omega))
      have hs1 := hP s (Nat.le_refl s)
      have hs2 := nSt_mono (kd := kd) (mv := mv) (show 8 * s ≤ 8 * s + l by omega)
      have hd8 : (8 * s + l) / 8 = s := by omega
      have hm8 : (8 * s + l) % 8 = l := by omega
      have hsO := bv s (by omega)
      obtain ⟨o, ho, hoe, e159⟩ := i1 s (by omega)
      have a157 : wAI W 157 = wAI w 157 := Fr_ai hW (by decide) (by omega)
      have a158 : wAI W 158 = wAI w 158 := Fr_ai hW (by decide) (by omega)
      have e157 : wAI W 157 (8 * o + l) = en (mv (8 * o + l)) := by rw [a157]; exact f5 _ (by omega)
      have hcs := nStep_cases (kd := kd) (mv := mv) (nSt kd mv (8 * s + l)) (8 * s + l)
      have hst : nSt kd mv (8 * s + l + 1) = nStep kd mv (nSt kd mv (8 * s + l)) (8 * s + l) := rfl
      have hmv : nMv kd mv (8 * s + l) = nTgt kd mv (nSt kd mv (8 * s + l)) (8 * s + l) := rfl
      have bn1 := (nSt_bd hkl f1 f6 (run_lt hP (show 8 * s + l + 1 ≤ 8 * s + 8 by omega))).2
      have hpm := Pe_mv (hLe o ho).2.1 hl
      rw [hoe] at hpm
      -- a letter is done
      have fin : ∀ (W' : MWd) (v : Int32) (l5 l6 : Option MV), rnFr m w W' → (∀ k, k < (nSt kd mv (8 * s + l + 1)).1 → ∃ o, o < n ∧ kd o = (nSt kd mv (8 * s + l + 1)).2 k ∧ wAI W' 159 k = Int32.ofNat o) → wAI W' (151 + m) = wAI W (151 + m) → wAI W' 149 = wAI W 149 → v = en (nMv kd mv (8 * s + l)) →
          mR d (sAI W' (151 + m) (9 * s + 1 + l) v) 144 51 [some (vR (some (10, 0, 128))), some (vI (Int32.ofNat m)), some (vI (Int32.ofNat (nSt kd mv (8 * s + l + 1)).1)), some (vI (Int32.ofNat s)), some (vI (Int32.ofNat (l + 1))), l5, l6] [] Q := by
        intro W' v l5 l6 g1 g2 g3 g4 g5
        have c1 : rnI w m n kd mv (8 * s + l + 1) (sAI W' (151 + m) (9 * s + 1 + l) v) := by
          refine ⟨Fr_sAI g1 (Or.inl (Or.inr (Or.inr rfl))), fun k hk => ?_, fun q hq => ?_⟩
          · obtain ⟨o', a1, a2, a3⟩ := g2 k hk
            exact ⟨o', a1, a2, by rw [sAI_row (by omega)]; exact a3⟩
          · show u2 (wAI W') (151 + m) (9 * s + 1 + l) v (151 + m) _ = _
            rw [u2_at]
            by_cases hqt : q = 8 * s + l
            · rw [if_pos (by omega), hqt]; exact g5
            · rw [if_neg (by omega), g3]; exact i2 q (by omega)
        have c2 : rnA m A kd mv (s + 1) (8 * s + l + 1) (sAI W' (151 + m) (9 * s + 1 + l) v) := by
          intro k hk
          show u2 (wAI W') (151 + m) (9 * s + 1 + l) v (151 + m) _ = _
          rw [u2_at, if_neg (by omega), g3, hA k hk, nSt_keep (show 8 * s + l ≤ 8 * s + l + 1 by omega) (by omega)]
        have c3 : wAI (sAI W' (151 + m) (9 * s + 1 + l) v) 149 = wAI w 149 := by rw [sAI_row (by omega), g4]; exact h149
        by_cases hl8 : l + 1 < 8
        · exact ih s (l + 1) _ _ _ (by omega) hl8 c1 c2 c3 hP
        · have hl7 : l = 7 := by omega
          subst hl7
          have e8 : 8 * s + 7 + 1 = 8 * (s + 1) := by omega
          rw [e8] at c1 c2 bn1 ⊢
          rw [e_144_51]
          simp (disch := omega) only [e_144_53, e_144_55, e_144_177, e_144_180, i_lit, i_add, i_mul, i_m1, i_lt, i_le, i_eq, i_cl, i_in, i_ltN, i_Nlt, i_leN, i_Nle, i_eN, i_Ne, i_inN, i_l1, i_l2, mj_cpok, mj_nn, reduceCtorEq, lg_self, Nat.not_lt_zero, Nat.zero_le, Nat.reduceEqDiff, Nat.reduceLT, Nat.reduceLeDiff, true_or, or_true, false_or, or_false, not_true_eq_false, not_false_eq_true, true_imp_iff, false_imp_iff, and_self, wrd, u2, and_true, true_and, and_false, false_and, and_self, ite_true, ite_false, reduceIte]
          refine ⟨?_, fun q => by omega⟩
          refine h21 (s + 1) _ _ _ _ c1 c2 c3 (fun q hq => hP q (by omega)) ?_ bn1 (fun W'' d1 d2 d3 d4 => ?_)
          · have := nSt_mono (kd := kd) (mv := mv) (show 8 * s ≤ 8 * (s + 1) by omega); omega
          · refine ih (s + 1) 0 W'' _ _ (by omega) (by omega) d1 d2 d3 (fun q hq => ?_)
            by_cases hqs : q = s + 1
            · subst hqs; exact d4
            · exact hP q (by omega)
      rw [e_144_51]
      rcases Pm_some hpm with ⟨p1, p2⟩ | ⟨a, a', p1, p2, p3⟩
      · have hnt : nTgt kd mv (nSt kd mv (8 * s + l)) (8 * s + l) = none ∧ nStep kd mv (nSt kd mv (8 * s + l)) (8 * s + l) = nSt kd mv (8 * s + l) := by
          unfold nTgt nStep
          rw [hd8, hm8, p1]; exact ⟨rfl, rfl⟩
        rw [p2] at e157
        replace e157 : wAI W 157 (8 * o + l) = NN := e157
        have e1 : (nSt kd mv (8 * s + l + 1)).1 = (nSt kd mv (8 * s + l)).1 := by rw [hst, hnt.2]
        have nn := fin W NN (some (vI NN)) (some (vI (Int32.ofNat 0))) hW (by rw [hst, hnt.2]; exact i1) rfl rfl (by rw [hmv, hnt.1]; rfl)
        rw [e1] at nn
        simp (disch := omega) only [e_144_53, e_144_55, e_144_58, e_144_59, e_144_62, e_144_64, e_144_65, e_144_68, e_144_69, e_144_70, e_144_71, e_144_73, e_144_74, e_144_75, e_144_77, e_144_78, i_lit, i_add, i_mul, i_m1, i_lt, i_le, i_eq, i_cl, i_in, i_ltN, i_Nlt, i_leN, i_Nle, i_eN, i_Ne, i_inN, i_l1, i_l2, mj_cpok, mj_nn, reduceCtorEq, lg_self, Nat.not_lt_zero, Nat.zero_le, Nat.reduceEqDiff, Nat.reduceLT, Nat.reduceLeDiff, true_or, or_true, false_or, or_false, not_true_eq_false, not_false_eq_true, true_imp_iff, false_imp_iff, and_self, wrd, u2, and_true, true_and, and_false, false_and, and_self, ite_true, ite_false, reduceIte, g_672 G', g_674 G', e159, e157]
        (repeat' (first | (with_reducible refine And.intro ?_ ?_) | (with_reducible intro _)))
        all_goals try omega
        rw [e_144_80]
        simp (disch := omega) only [e_144_82, e_144_83, e_144_120, e_144_122, e_144_123, e_144_143, e_144_144, e_144_147, e_144_148, e_144_149, e_144_151, e_144_152, e_144_153, e_144_154, e_144_155, e_144_157, e_144_158, e_144_160, e_144_161, e_144_164, e_144_165, e_144_170, e_144_171, e_144_174, i_lit, i_add, i_mul, i_m1, i_lt, i_le, i_eq, i_cl, i_in, i_ltN, i_Nlt, i_leN, i_Nle, i_eN, i_Ne, i_inN, i_l1, i_l2, mj_cpok, mj_nn, reduceCtorEq, lg_self, Nat.not_lt_zero, Nat.zero_le, Nat.reduceEqDiff, Nat.reduceLT, Nat.reduceLeDiff, true_or, or_true, false_or, or_false, not_true_eq_false, not_false_eq_true, true_imp_iff, false_imp_iff, and_self, wrd, u2, and_true, true_and, and_false, false_and, and_self, ite_true, ite_false, reduceIte, g_668 G', g_made G' hm]
        (repeat' (first | (with_reducible refine And.intro ?_ ?_) | (with_reducible intro _)))
        all_goals first | omega | exact nn
      · have haN := f6 _ a' (by omega) p2
        have haN1 := f6 _ a (by omega) p1
        have hka : kd a = kd a' := (Le_iff (hLe a haN1) (hLe a' haN)).mpr p3
        rw [p2] at e157
        replace e157 : wAI W 157 (8 * o + l) = Int32.ofNat a' := e157
        have hnt : nTgt kd mv (nSt kd mv (8 * s + l)) (8 * s + l) = some (fdK (nSt kd mv (8 * s + l)).2 (kd a') (nSt kd mv (8 * s + l)).1) ∧ nStep kd mv (nSt kd mv (8 * s + l)) (8 * s + l) = (if fdK (nSt kd mv (8 * s + l)).2 (kd a') (nSt kd mv (8 * s + l)).1 = (nSt kd mv (8 * s + l)).1 then ((nSt kd mv (8 * s + l)).1 + 1, updN (nSt kd mv (8 * s + l)).2 (nSt kd mv (8 * s + l)).1 (kd a')) else nSt kd mv (8 * s + l)) := by
          unfold nTgt nStep
          rw [hd8, hm8, p1]
          dsimp only
          rw [hka]; exact ⟨rfl, rfl⟩
        have e158a : wAI W 158 a' = Int32.ofNat (cl a') := by rw [a158]; exact (hcl a' haN).1
        have cla := (hcl a' haN).2
        have search : ∀ (f' k : Nat), k + f' = (nSt kd mv (8 * s + l)).1 → (∀ j, j < k → (nSt kd mv (8 * s + l)).2 j ≠ kd a') →
            mR d W 144 80 [some (vR (some (10, 0, 128))), some (vI (Int32.ofNat m)), some (vI (Int32.ofNat (nSt kd mv (8 * s + l)).1)), some (vI (Int32.ofNat s)), some (vI (Int32.ofNat l)), some (vI (Int32.ofNat a')), some (vI (Int32.ofNat k))] [] Q := by
          intro f'
          induction f' with
          | zero =>
            intro k hk hne
            have hkz : k = (nSt kd mv (8 * s + l)).1 := by omega
            have hfd : fdK (nSt kd mv (8 * s + l)).2 (kd a') (nSt kd mv (8 * s + l)).1 = (nSt kd mv (8 * s + l)).1 := fdK_of (Nat.le_refl _) (Or.inl rfl) (fun j hj => hne j (by omega))
            rw [hfd] at hnt
            rw [if_pos rfl] at hnt
            have e1 : (nSt kd mv (8 * s + l + 1)).1 = (nSt kd mv (8 * s + l)).1 + 1 := by rw [hst, hnt.2]
            have bn2 : (nSt kd mv (8 * s + l)).1 < n := by omega
            have nn := fin (sAI W 159 (nSt kd mv (8 * s + l)).1 (Int32.ofNat a')) (Int32.ofNat (nSt kd mv (8 * s + l)).1) (some (vI (Int32.ofNat a'))) (some (vI (Int32.ofNat k))) (Fr_sAI hW (Or.inl (Or.inl rfl))) (fun x hx => by
              rw [hst, hnt.2] at hx ⊢
              have hx' : x < (nSt kd mv (8 * s + l)).1 + 1 := hx
              show ∃ o, o < n ∧ kd o = updN (nSt kd mv (8 * s + l)).2 (nSt kd mv (8 * s + l)).1 (kd a') x ∧ u2 (wAI W) 159 (nSt kd mv (8 * s + l)).1 (Int32.ofNat a') 159 x = Int32.ofNat o
              rw [u2_at]
              by_cases hxz : x = (nSt kd mv (8 * s + l)).1
              · rw [if_pos hxz, hxz, updN_at]; exact ⟨a', haN, rfl, rfl⟩
              · rw [if_neg hxz, updN_ne hxz]; exact i1 x (by omega)) (sAI_row (by omega)) (sAI_row (by omega)) (by rw [hmv, hnt.1]; rfl)
            rw [e1] at nn
            subst hkz
            rw [e_144_80]
            simp (disch := omega) only [e_144_82, e_144_83, e_144_86, e_144_88, e_144_89, e_144_120, e_144_122, e_144_123, e_144_126, e_144_128, e_144_129, e_144_132, e_144_133, e_144_136, e_144_137, e_144_139, e_144_140, e_144_143, e_144_144, e_144_147, e_144_148, e_144_149, e_144_151, e_144_152, e_144_153, e_144_154, e_144_155, e_144_157, e_144_158, e_144_160, e_144_161, e_144_168, e_144_170, e_144_171, e_144_174, i_lit, i_add, i_mul, i_m1, i_lt, i_le, i_eq, i_cl, i_in, i_ltN, i_Nlt, i_leN, i_Nle, i_eN, i_Ne, i_inN, i_l1, i_l2, mj_cpok, mj_nn, reduceCtorEq, lg_self, Nat.not_lt_zero, Nat.zero_le, Nat.reduceEqDiff, Nat.reduceLT, Nat.reduceLeDiff, true_or, or_true, false_or, or_false, not_true_eq_false, not_false_eq_true, true_imp_iff, false_imp_iff, and_self, wrd, u2, and_true, true_and, and_false, false_and, and_self, ite_true, ite_false, reduceIte, g_668 G', g_made G' hm, g_674 G']
            (repeat' (first | (with_reducible refine And.intro ?_ ?_) | (with_reducible intro _)))
            all_goals first | omega | exact nn
          | succ f' ihs =>
            intro k hk hne
            obtain ⟨o', ho', hoe', e159'⟩ := i1 k (by omega)
            have e158b : wAI W 158 o' = Int32.ofNat (cl o') := by rw [a158]; exact (hcl o' ho').1
            have clb := (hcl o' ho').2
            have hce' := kce o' a' ho' haN
            by_cases hcc : cl o' = cl a'
            · have hkk : (nSt kd mv (8 * s + l)).2 k = kd a' := by rw [← hoe']; exact hce'.mp hcc
              have hfd : fdK (nSt kd mv (8 * s + l)).2 (kd a') (nSt kd mv (8 * s + l)).1 = k := fdK_of (by omega) (Or.inr hkk) hne
              rw [hfd, if_neg (by omega)] at hnt
              have e1 : (nSt kd mv (8 * s + l + 1)).1 = (nSt kd mv (8 * s + l)).1 := by rw [hst, hnt.2]
              have nn := fin W (Int32.ofNat k) (some (vI (Int32.ofNat a'))) (some (vI (Int32.ofNat k))) hW (by rw [hst, hnt.2]; exact i1) rfl rfl (by rw [hmv, hnt.1]; rfl)
              rw [e1] at nn
              have hkne : ¬ k = (nSt kd mv (8 * s + l)).1 := by omega
              rw [e_144_80]
              simp (disch := omega) only [e_144_82, e_144_83, e_144_86, e_144_88, e_144_89, e_144_92, e_144_93, e_144_96, e_144_97, e_144_100, e_144_102, e_144_103, e_144_104, e_144_105, e_144_108, e_144_110, e_144_111, e_144_120, e_144_122, e_144_123, e_144_126, e_144_128, e_144_129, e_144_143, e_144_144, e_144_147, e_144_148, e_144_149, e_144_151, e_144_152, e_144_153, e_144_154, e_144_155, e_144_157, e_144_158, e_144_160, e_144_161, e_144_168, e_144_170, e_144_171, e_144_174, i_lit, i_add, i_mul, i_m1, i_lt, i_le, i_eq, i_cl, i_in, i_ltN, i_Nlt, i_leN, i_Nle, i_eN, i_Ne, i_inN, i_l1, i_l2, mj_cpok, mj_nn, reduceCtorEq, lg_self, Nat.not_lt_zero, Nat.zero_le, Nat.reduceEqDiff, Nat.reduceLT, Nat.reduceLeDiff, true_or, or_true, false_or, or_false, not_true_eq_false, not_false_eq_true, true_imp_iff, false_imp_iff, and_self, wrd, u2, and_true, true_and, and_false, false_and, and_self, ite_true, ite_false, reduceIte, g_668 G', g_made G' hm, g_674 G', g_673 G', e159', e158a, e158b, hcc, hkne]
              (repeat' (first | (with_reducible refine And.intro ?_ ?_) | (with_reducible intro _)))
              all_goals first | omega | exact nn
            · rw [e_144_80]
              simp (disch := omega) only [e_144_82, e_144_83, e_144_86, e_144_88, e_144_89, e_144_92, e_144_93, e_144_96, e_144_97, e_144_100, e_144_102, e_144_103, e_144_104, e_144_105, e_144_108, e_144_110, e_144_111, e_144_114, e_144_117, i_lit, i_add, i_mul, i_m1, i_lt, i_le, i_eq, i_cl, i_in, i_ltN, i_Nlt, i_leN, i_Nle, i_eN, i_Ne, i_inN, i_l1, i_l2, mj_cpok, mj_nn, reduceCtorEq, lg_self, Nat.not_lt_zero, Nat.zero_le, Nat.reduceEqDiff, Nat.reduceLT, Nat.reduceLeDiff, true_or, or_true, false_or, or_false, not_true_eq_false, not_false_eq_true, true_imp_iff, false_imp_iff, and_self, wrd, u2, and_true, true_and, and_false, false_and, and_self, ite_true, ite_false, reduceIte, g_674 G', g_673 G', e159', e158a, e158b, hcc]
              (repeat' (first | (with_reducible refine And.intro ?_ ?_) | (with_reducible intro _)))
              all_goals try omega
              refine ihs (k + 1) (by omega) (fun j hj => ?_)
              by_cases hjk : j = k
              · subst hjk; rw [← hoe']; exact fun q => hcc (hce'.mpr q)
              · exact hne j (by omega)
        simp (disch := omega) only [e_144_53, e_144_55, e_144_58, e_144_59, e_144_62, e_144_64, e_144_65, e_144_68, e_144_69, e_144_70, e_144_71, e_144_73, e_144_74, e_144_75, e_144_77, e_144_78, i_lit, i_add, i_mul, i_m1, i_lt, i_le, i_eq, i_cl, i_in, i_ltN, i_Nlt, i_leN, i_Nle, i_eN, i_Ne, i_inN, i_l1, i_l2, mj_cpok, mj_nn, reduceCtorEq, lg_self, Nat.not_lt_zero, Nat.zero_le, Nat.reduceEqDiff, Nat.reduceLT, Nat.reduceLeDiff, true_or, or_true, false_or, or_false, not_true_eq_false, not_false_eq_true, true_imp_iff, false_imp_iff, and_self, wrd, u2, and_true, true_and, and_false, false_and, and_self, ite_true, ite_false, reduceIte, g_672 G', g_674 G', e159, e157]
        (repeat' (first | (with_reducible refine And.intro ?_ ?_) | (with_reducible intro _)))
        all_goals try omega
        exact search (nSt kd mv (8 * s + l)).1 0 (by omega) (fun j hj => absurd hj (Nat.not_lt_zero j))
  simp (disch := omega) only [e_144_0, e_144_1, e_144_2, e_144_3, e_144_6, e_144_7, e_144_10, e_144_11, e_144_14, e_144_15, e_144_16, e_144_17, e_144_18, e_144_19, e_144_20, i_lit, i_add, i_mul, i_m1, i_lt, i_le, i_eq, i_cl, i_in, i_ltN, i_Nlt, i_leN, i_Nle, i_eN, i_Ne, i_inN, i_l1, i_l2, mj_cpok, mj_nn, reduceCtorEq, lg_self, Nat.not_lt_zero, Nat.zero_le, Nat.reduceEqDiff, Nat.reduceLT, Nat.reduceLeDiff, true_or, or_true, false_or, or_false, not_true_eq_false, not_false_eq_true, true_imp_iff, false_imp_iff, and_self, wrd, u2, and_true, true_and, and_false, false_and, and_self, ite_true, ite_false, reduceIte, f3, g_674 G]
  (repeat' (first | (with_reducible refine And.intro ?_ ?_) | (with_reducible intro _)))
  all_goals try omega
  refine h21 0 _ _ _ _ ⟨Fr_sAI Fr_refl (Or.inl (Or.inl rfl)), fun k hk => ?_, fun q hq => by omega⟩ (fun k hk => absurd hk (Nat.not_lt_zero k)) (sAI_row (by omega)) (fun q hq => absurd hq (Nat.not_lt_zero q)) (Nat.zero_le _) (show 1 ≤ n by omega) (fun W' d1 d2 d3 d4 => h51 800 0 0 W' _ _ (by omega) (by omega) d1 d2 d3 (fun q hq => by
    have hq0 : q = 0 := by omega
    subst hq0
    exact Nat.zero_lt_one))
  have hk' : k < 1 := hk
  have hk0 : k = 0 := by omega
  subst hk0
  exact ⟨0, by omega, rfl, by simp only [mj_cpok, mj_nn, reduceCtorEq, lg_self, Nat.not_lt_zero, Nat.zero_le, Nat.reduceEqDiff, Nat.reduceLT, Nat.reduceLeDiff, true_or, or_true, false_or, or_false, not_true_eq_false, not_false_eq_true, true_imp_iff, false_imp_iff, and_self, wrd, u2, and_true, true_and, and_false, false_and, and_self, ite_true, ite_false, reduceIte]⟩
theorem s_144a (G : Gr w) (hm : m < 4) (h1 : wFI w 669 128 = Int32.ofNat 1) (h : Q (.inl none) (sAI w 149 m (Int32.ofNat 0))) :
    mR d w 144 0 [some (vR (some (10, 0, 128))), some (vI (Int32.ofNat m)), none, none, none, none, none] [] Q := by
  simp (disch := omega) only [e_144_0, e_144_1, e_144_2, e_144_3, e_144_6, e_144_7, e_144_19, e_144_20, i_lit, i_add, i_mul, i_m1, i_lt, i_le, i_eq, i_cl, i_in, i_ltN, i_Nlt, i_leN, i_Nle, i_eN, i_Ne, i_inN, i_l1, i_l2, mj_cpok, mj_nn, reduceCtorEq, lg_self, Nat.not_lt_zero, Nat.zero_le, Nat.reduceEqDiff, Nat.reduceLT, Nat.reduceLeDiff, true_or, or_true, false_or, or_false, not_true_eq_false, not_false_eq_true, true_imp_iff, false_imp_iff, and_self, wrd, u2, and_true, true_and, and_false, false_and, and_self, ite_true, ite_false, reduceIte, h1]
  (repeat' (first | (with_reducible refine And.intro ?_ ?_) | (with_reducible intro _)))
  all_goals try omega
  rw [e_144_21]
  simp (disch := omega) only [e_144_22, e_144_23, e_144_183, e_144_184, e_144_187, e_144_188, e_144_189, e_144_190, i_lit, i_add, i_mul, i_m1, i_lt, i_le, i_eq, i_cl, i_in, i_ltN, i_Nlt, i_leN, i_Nle, i_eN, i_Ne, i_inN, i_l1, i_l2, mj_cpok, mj_nn, reduceCtorEq, lg_self, Nat.not_lt_zero, Nat.zero_le, Nat.reduceEqDiff, Nat.reduceLT, Nat.reduceLeDiff, true_or, or_true, false_or, or_false, not_true_eq_false, not_false_eq_true, true_imp_iff, false_imp_iff, and_self, wrd, u2, and_true, true_and, and_false, false_and, and_self, ite_true, ite_false, reduceIte, g_667 G]
  (repeat' (first | (with_reducible refine And.intro ?_ ?_) | (with_reducible intro _)))
  all_goals first | omega | exact h
end RN
