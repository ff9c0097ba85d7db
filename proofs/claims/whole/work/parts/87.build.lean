/-! build: the reference's whole. -/
theorem ruEq_symm {w w' : MWd} (h : ruEq w w') : ruEq w' w := ⟨h.1.symm, fun k a h1 h2 => (h.2.1 k a h1 h2).symm, fun a h1 h2 => (h.2.2 a h1 h2).symm⟩
def rbF (k a : Nat) : Prop := a = 128 ∧ (k = 640 ∨ k = 669 ∨ k = 663 ∨ k = 664)
def rbA (a : Nat) : Prop := a = 143 ∨ (145 ≤ a ∧ a ≤ 149) ∨ (151 ≤ a ∧ a ≤ 159)
def rbF0 (k a : Nat) : Prop := a = 128 ∧ (k = 640 ∨ k = 669)
def rbA0 (a : Nat) : Prop := a = 149 ∨ (151 ≤ a ∧ a ≤ 159)
abbrev rb0 (w w' : MWd) : Prop := Fr rbF0 rbA0 0 0 w w'
abbrev rb1 (w w' : MWd) : Prop := Fr rbF rbA 0 0 w w'
def rdOk (W : MWd) (m N : Nat) (mvN an : Nat → Option Nat) : Prop := wAI W 149 m = Int32.ofNat N ∧ (∀ s, s < N → wAI W (151 + m) (9 * s) = en (an s)) ∧ (∀ s l, s < N → l < 8 → wAI W (151 + m) (9 * s + 1 + l) = en (mvN (8 * s + l)))
section RB
variable {d : Nat} {w : MWd} {Q : MRes → MWd → Prop}
/-- one mode of the reference, when the class has a machine for it -/
theorem s_145m {nr m N : Nat} {mvN an : Nat → Option Nat} (G : Gr w) (hnr : nr ≤ 12) (hR : ∀ r, r < nr → RuleOk w r) (h1 : wFI w 644 128 = Int32.ofNat nr) (hm : m < 4) (hM : isM w nr m N mvN an)
    (K : ∀ W, Fr (fun k a => k = 669 ∧ a = 128) (fun a => a = 149 ∨ a = 151 + m ∨ (155 ≤ a ∧ a ≤ 159)) 0 0 w W → rdOk W m N mvN an → (∀ j, j ≠ m → wAI W 149 j = wAI w 149 j) → mR (d + 5) W 145 35 [some (vR (some (10, 0, 128))), some (vI (Int32.ofNat m)), none] [] Q) :
    mR (d + 5) w 145 12 [some (vR (some (10, 0, 128))), some (vI (Int32.ofNat m)), none] [] Q := by
  simp (disch := omega) only [e_145_12, e_145_13, e_145_14]
  refine s_140 G hnr hR h1 hm (fun W n hE hI hA => ?_) (fun W hF hB => ?_)
  · obtain ⟨hF, i1, i2, i3, i4⟩ := hI
    have hz : (sSt (nxF w nr m) (8 * n)).1 = n := hE.2.1
    have hn1 := sEnd_pos hE
    have hCF : CF W n (stA w nr m n) (sMv (nxF w nr m)) := ⟨hn1, hE.2.2, by rw [i2, hz], fun s hs => hA s hs, i4, sMv_in hE⟩
    have G1 := Fr_Gr hF G
    simp (disch := omega) only [mK_v, e_145_17, e_145_26, e_145_27, i_lit, i_add, i_mul, i_m1, i_lt, i_le, i_eq, i_cl, i_in, i_ltN, i_Nlt, i_leN, i_Nle, i_eN, i_Ne, i_inN, i_l1, i_l2, mj_cpok, mj_nn, reduceCtorEq, lg_self, Nat.not_lt_zero, Nat.zero_le, Nat.reduceEqDiff, Nat.reduceLT, Nat.reduceLeDiff, true_or, or_true, false_or, or_false, not_true_eq_false, not_false_eq_true, true_imp_iff, false_imp_iff, and_self, wrd, u2, and_true, true_and, and_false, false_and, and_self, ite_true, ite_false, reduceIte]
    (repeat' (first | (with_reducible refine And.intro ?_ ?_) | (with_reducible intro _)))
    all_goals try omega
    refine s_141 G1 hCF (fun W1 cl f1 c1 c2 => ?_)
    simp (disch := omega) only [mK_n, e_145_30, e_145_31, e_145_32, i_lit, i_add, i_mul, i_m1, i_lt, i_le, i_eq, i_cl, i_in, i_ltN, i_Nlt, i_leN, i_Nle, i_eN, i_Ne, i_inN, i_l1, i_l2, mj_cpok, mj_nn, reduceCtorEq, lg_self, Nat.not_lt_zero, Nat.zero_le, Nat.reduceEqDiff, Nat.reduceLT, Nat.reduceLeDiff, true_or, or_true, false_or, or_false, not_true_eq_false, not_false_eq_true, true_imp_iff, false_imp_iff, and_self, wrd, u2, and_true, true_and, and_false, false_and, and_self, ite_true, ite_false, reduceIte]
    have hF1 : Fr (fun k a => k = 669 ∧ a = 128) (fun a => a = 149 ∨ a = 151 + m ∨ (155 ≤ a ∧ a ≤ 159)) 0 0 w W1 := Fr_trans (x := 0) (y := 0) (x' := 0) (y' := 0) (Fr_weak hF (fun _ _ q => q) (fun a q => by unfold R140 at q; omega) (Nat.le_refl 0) (Nat.le_refl 0)) (Fr_weak f1 (fun _ _ q => q.elim) (fun a q => by omega) (Nat.le_refl 0) (Nat.le_refl 0))
    have hCF1 : CF W1 n (stA w nr m n) (sMv (nxF w nr m)) := by
      obtain ⟨a1, a2, a3, a4, a5, a6⟩ := hCF
      exact ⟨a1, a2, (Fr_fi f1 (by decide) (fun q => q)).trans a3, by rw [Fr_ai f1 (by decide) (by decide)]; exact a4, by rw [Fr_ai f1 (by decide) (by decide)]; exact a5, a6⟩
    have G2 := Fr_Gr hF1 G
    have b149 : wAI W1 149 = wAI w 149 := (Fr_ai f1 (by decide) (by decide)).trans (Fr_ai hF (by decide) (by unfold R140; omega))
    obtain ⟨n', hE', hcase⟩ := hM
    have hnn := sEnd_uniq hE' hE
    subst hnn
    rcases hcase with ⟨hn, hN⟩ | ⟨h2, kd, hk, hN, hmv, han⟩
    · subst hN
      refine s_144a G2 hm (by rw [hCF1.2.2.1, hn]) ?_
      simp (disch := omega) only [mK_n]
      refine K _ (Fr_sAI hF1 (Or.inl (Or.inl rfl))) ⟨by simp only [mj_cpok, mj_nn, reduceCtorEq, lg_self, Nat.not_lt_zero, Nat.zero_le, Nat.reduceEqDiff, Nat.reduceLT, Nat.reduceLeDiff, true_or, or_true, false_or, or_false, not_true_eq_false, not_false_eq_true, true_imp_iff, false_imp_iff, and_self, wrd, u2, and_true, true_and, and_false, false_and, and_self, ite_true, ite_false, reduceIte], fun s hs => absurd hs (Nat.not_lt_zero s), fun s l hs => absurd hs (Nat.not_lt_zero s)⟩ (fun j hj => ?_)
      simp only [mj_cpok, mj_nn, reduceCtorEq, lg_self, Nat.not_lt_zero, Nat.zero_le, Nat.reduceEqDiff, Nat.reduceLT, Nat.reduceLeDiff, true_or, or_true, false_or, or_false, not_true_eq_false, not_false_eq_true, true_imp_iff, false_imp_iff, and_self, wrd, u2, and_true, true_and, and_false, false_and, and_self, ite_true, ite_false, reduceIte, hj]; rw [b149]
    · refine s_144 G2 hm hCF1 c1 c2 hk h2 (fun W2 N' hN' hN1 hI2 hA2 h149 h149' => ?_)
      have hNN := nEnd_uniq hN' hN
      subst hNN
      simp (disch := omega) only [mK_n]
      refine K W2 (Fr_trans (x := 0) (y := 0) (x' := 0) (y' := 0) hF1 (Fr_weak hI2.1 (fun _ _ q => q.elim) (fun a q => by omega) (Nat.le_refl 0) (Nat.le_refl 0))) ⟨h149, fun s hs => ?_, fun s l hs hl => ?_⟩ (fun j hj => by rw [h149' j hj, b149])
      · rw [hA2 s hs, han s hs]; rfl
      · have := hI2.2.2 (8 * s + l) (by omega)
        rw [show (8 * s + l) / 8 = s by omega, show (8 * s + l) % 8 = l by omega] at this
        rw [this, hmv]
  · obtain ⟨n', hE', -⟩ := hM
    exact (sEnd_bad hE' hB).elim
/-- the modes up to M have machines -/
theorem s_145l {nr M : Nat} {N : Nat → Nat} {mvN an : Nat → Nat → Option Nat} (G : Gr w) (hnr : nr ≤ 12) (hR : ∀ r, r < nr → RuleOk w r) (h1 : wFI w 644 128 = Int32.ofNat nr) (hM4 : M ≤ 4) (hM : ∀ m, m < M → isM w nr m (N m) (mvN m) (an m))
    (K : ∀ W, rb0 w W → (∀ m, m < M → rdOk W m (N m) (mvN m) (an m)) → mR (d + 5) W 145 7 [some (vR (some (10, 0, 128))), some (vI (Int32.ofNat M)), none] [] Q) :
    ∀ (f m : Nat) (W : MWd), m + f = M → rb0 w W → (∀ q, q < m → rdOk W q (N q) (mvN q) (an q)) → mR (d + 5) W 145 7 [some (vR (some (10, 0, 128))), some (vI (Int32.ofNat m)), none] [] Q := by
  intro f
  induction f with
  | zero =>
    intro m W hm hF hq
    have he : m = M := by omega
    subst he
    exact K W hF hq
  | succ f ih =>
    intro m W hm hF hq
    have ru : ruEq w W := ⟨Fr_fi hF (by decide) (by unfold rbF0; omega), fun k a h1 h2 => Fr_fi hF (by omega) (by unfold rbF0; omega), fun a h1 h2 => Fr_ai hF (by omega) (by unfold rbA0; omega)⟩
    have hRW : ∀ r, r < nr → RuleOk W r := fun r hr => RuleOk_Fr hF (by omega) (hR r hr) (fun _ _ _ _ q => by unfold rbF0 at q; omega) (fun a h q => by unfold rbA0 at q; omega)
    have a644 : wFI W 644 128 = Int32.ofNat nr := (Fr_fi hF (by decide) (by unfold rbF0; omega)).trans h1
    rw [e_145_7]
    simp (disch := omega) only [e_145_8, e_145_9, i_lit, i_add, i_mul, i_m1, i_lt, i_le, i_eq, i_cl, i_in, i_ltN, i_Nlt, i_leN, i_Nle, i_eN, i_Ne, i_inN, i_l1, i_l2, mj_cpok, mj_nn, reduceCtorEq, lg_self, Nat.not_lt_zero, Nat.zero_le, Nat.reduceEqDiff, Nat.reduceLT, Nat.reduceLeDiff, true_or, or_true, false_or, or_false, not_true_eq_false, not_false_eq_true, true_imp_iff, false_imp_iff, and_self, wrd, u2, and_true, true_and, and_false, false_and, and_self, ite_true, ite_false, reduceIte]
    refine ⟨fun q => by omega, fun _ => ?_⟩
    refine s_145m (Fr_Gr hF G) hnr hRW a644 (by omega) (isM_congr (ruEq_symm ru) hnr (hM m (by omega))) (fun W' f1 r1 j149 => ?_)
    simp (disch := omega) only [e_145_35, e_145_38, i_lit, i_add, i_mul, i_m1, i_lt, i_le, i_eq, i_cl, i_in, i_ltN, i_Nlt, i_leN, i_Nle, i_eN, i_Ne, i_inN, i_l1, i_l2, mj_cpok, mj_nn, reduceCtorEq, lg_self, Nat.not_lt_zero, Nat.zero_le, Nat.reduceEqDiff, Nat.reduceLT, Nat.reduceLeDiff, true_or, or_true, false_or, or_false, not_true_eq_false, not_false_eq_true, true_imp_iff, false_imp_iff, and_self, wrd, u2, and_true, true_and, and_false, false_and, and_self, ite_true, ite_false, reduceIte]
    refine ih (m + 1) W' (by omega) ?_ (fun q hqm => ?_)
    · exact Fr_trans (x := 0) (y := 0) (x' := 0) (y' := 0) hF (Fr_weak f1 (fun k a q => by unfold rbF0; omega) (fun a q => by unfold rbA0; omega) (Nat.le_refl 0) (Nat.le_refl 0))
    · by_cases hqe : q = m
      · subst hqe; exact r1
      · obtain ⟨b1, b2, b3⟩ := hq q (by omega)
        refine ⟨by rw [j149 q hqe]; exact b1, ?_, ?_⟩
        · rw [Fr_ai f1 (by omega) (by omega)]; exact b2
        · rw [Fr_ai f1 (by omega) (by omega)]; exact b3
/-- a mode that is too great -/
theorem s_145bad {nr M : Nat} {N : Nat → Nat} {mvN an : Nat → Nat → Option Nat} (G : Gr w) (hnr : nr ≤ 12) (hR : ∀ r, r < nr → RuleOk w r) (h1 : wFI w 644 128 = Int32.ofNat nr) (hM4 : M < 4) (hM : ∀ m, m < M → isM w nr m (N m) (mvN m) (an m)) (hB : sBad (nxF w nr M))
    (K : ∀ W, rb0 w W → wFI W 640 128 = Int32.ofNat 1 → Q (.inl (some (vI (Int32.ofNat 0)))) W) :
    mR (d + 5) w 145 0 [some (vR (some (10, 0, 128))), none, none] [] Q := by
  simp (disch := omega) only [e_145_0, e_145_1, e_145_2, e_145_5, e_145_6, i_lit, i_add, i_mul, i_m1, i_lt, i_le, i_eq, i_cl, i_in, i_ltN, i_Nlt, i_leN, i_Nle, i_eN, i_Ne, i_inN, i_l1, i_l2, mj_cpok, mj_nn, reduceCtorEq, lg_self, Nat.not_lt_zero, Nat.zero_le, Nat.reduceEqDiff, Nat.reduceLT, Nat.reduceLeDiff, true_or, or_true, false_or, or_false, not_true_eq_false, not_false_eq_true, true_imp_iff, false_imp_iff, and_self, wrd, u2, and_true, true_and, and_false, false_and, and_self, ite_true, ite_false, reduceIte]
  have G0 : Gr (sFI w 640 128 (Int32.ofNat 0)) := G_sFI G
  have F0 : rb0 w (sFI w 640 128 (Int32.ofNat 0)) := Fr_sFI Fr_refl (Or.inl (by unfold rbF0; omega))
  refine s_145l (w := w) (M := M) G hnr hR h1 (by omega) hM (fun W hF hq => ?_) M 0 _ (by omega) F0 (fun q hq => absurd hq (Nat.not_lt_zero q))
  have ru : ruEq w W := ⟨Fr_fi hF (by decide) (by unfold rbF0; omega), fun k a h1 h2 => Fr_fi hF (by omega) (by unfold rbF0; omega), fun a h1 h2 => Fr_ai hF (by omega) (by unfold rbA0; omega)⟩
  have hRW : ∀ r, r < nr → RuleOk W r := fun r hr => RuleOk_Fr hF (by omega) (hR r hr) (fun _ _ _ _ q => by unfold rbF0 at q; omega) (fun a h q => by unfold rbA0 at q; omega)
  have a644 : wFI W 644 128 = Int32.ofNat nr := (Fr_fi hF (by decide) (by unfold rbF0; omega)).trans h1
  rw [e_145_7]
  simp (disch := omega) only [e_145_8, e_145_9, e_145_12, e_145_13, e_145_14, i_lit, i_add, i_mul, i_m1, i_lt, i_le, i_eq, i_cl, i_in, i_ltN, i_Nlt, i_leN, i_Nle, i_eN, i_Ne, i_inN, i_l1, i_l2, mj_cpok, mj_nn, reduceCtorEq, lg_self, Nat.not_lt_zero, Nat.zero_le, Nat.reduceEqDiff, Nat.reduceLT, Nat.reduceLeDiff, true_or, or_true, false_or, or_false, not_true_eq_false, not_false_eq_true, true_imp_iff, false_imp_iff, and_self, wrd, u2, and_true, true_and, and_false, false_and, and_self, ite_true, ite_false, reduceIte]
  refine ⟨fun q => by omega, fun _ => ?_⟩
  refine s_140 (Fr_Gr hF G) hnr hRW a644 (by omega) (fun W' n hE hI hA => ?_) (fun W' hF' hB' => ?_)
  · rw [ruEq_nx ru hnr] at hE
    exact (sEnd_bad hE hB).elim
  · simp (disch := omega) only [mK_v, e_145_17, e_145_20, e_145_21, e_145_22, e_110_0, e_110_1, e_110_2, e_110_5, e_110_6, e_145_25, i_lit, i_add, i_mul, i_m1, i_lt, i_le, i_eq, i_cl, i_in, i_ltN, i_Nlt, i_leN, i_Nle, i_eN, i_Ne, i_inN, i_l1, i_l2, mj_cpok, mj_nn, reduceCtorEq, lg_self, Nat.not_lt_zero, Nat.zero_le, Nat.reduceEqDiff, Nat.reduceLT, Nat.reduceLeDiff, true_or, or_true, false_or, or_false, not_true_eq_false, not_false_eq_true, true_imp_iff, false_imp_iff, and_self, wrd, u2, and_true, true_and, and_false, false_and, and_self, ite_true, ite_false, reduceIte]
    (repeat' (first | (with_reducible refine And.intro ?_ ?_) | (with_reducible intro _)))
    all_goals try omega
    refine K _ (Fr_sFI (Fr_trans (x := 0) (y := 0) (x' := 0) (y' := 0) hF (Fr_weak hF' (fun k a q => by unfold rbF0; omega) (fun a q => by unfold R140 at q; unfold rbA0; omega) (Nat.le_refl 0) (Nat.le_refl 0))) (Or.inl (by unfold rbF0; omega))) (by simp only [mj_cpok, mj_nn, reduceCtorEq, lg_self, Nat.not_lt_zero, Nat.zero_le, Nat.reduceEqDiff, Nat.reduceLT, Nat.reduceLeDiff, true_or, or_true, false_or, or_false, not_true_eq_false, not_false_eq_true, true_imp_iff, false_imp_iff, and_self, wrd, u2, and_true, true_and, and_false, false_and, and_self, ite_true, ite_false, reduceIte])
theorem s_145ok {nr : Nat} {N : Nat → Nat} {mvN an : Nat → Nat → Option Nat} (G : Gr w) (hnr : nr ≤ 12) (hR : ∀ r, r < nr → RuleOk w r) (h1 : wFI w 644 128 = Int32.ofNat nr) (hM : ∀ m, m < 4 → isM w nr m (N m) (mvN m) (an m)) (hN : ∀ m, m < 4 → N m ≤ 100)
    (K : ∀ W, rb1 w W → (∀ m, m < 4 → RefA W m (N m) (mvN m) (an m)) → wFI W 640 128 = Int32.ofNat 0 → wFI W 663 128 = Int32.ofNat 1 → wFI W 664 128 = Int32.ofNat nr → Q (.inl (some (vI (Int32.ofNat (N 0 + N 1 + N 2 + N 3))))) W) :
    mR (d + 5) w 145 0 [some (vR (some (10, 0, 128))), none, none] [] Q := by
  simp (disch := omega) only [e_145_0, e_145_1, e_145_2, e_145_5, e_145_6, i_lit, i_add, i_mul, i_m1, i_lt, i_le, i_eq, i_cl, i_in, i_ltN, i_Nlt, i_leN, i_Nle, i_eN, i_Ne, i_inN, i_l1, i_l2, mj_cpok, mj_nn, reduceCtorEq, lg_self, Nat.not_lt_zero, Nat.zero_le, Nat.reduceEqDiff, Nat.reduceLT, Nat.reduceLeDiff, true_or, or_true, false_or, or_false, not_true_eq_false, not_false_eq_true, true_imp_iff, false_imp_iff, and_self, wrd, u2, and_true, true_and, and_false, false_and, and_self, ite_true, ite_false, reduceIte]
  have F0 : rb0 w (sFI w 640 128 (Int32.ofNat 0)) := Fr_sFI Fr_refl (Or.inl (by unfold rbF0; omega))
  -- the store keeps what fail does not touch: 640 is tracked by hand
  have run : ∀ (W : MWd), rb0 w W → wFI W 640 128 = Int32.ofNat 0 → (∀ m, m < 4 → rdOk W m (N m) (mvN m) (an m)) → mR (d + 5) W 145 7 [some (vR (some (10, 0, 128))), some (vI (Int32.ofNat 4)), none] [] Q := by
    intro W hF h640 hq
    have tot : ∀ (f m : Nat) (V : MWd) (x : Nat), m + f = 4 → rb1 w V → wFI V 640 128 = Int32.ofNat 0 → (∀ q, q < 4 → rdOk V q (N q) (mvN q) (an q)) → (∀ q, q < m → RefA V q (N q) (mvN q) (an q)) → x = (if m = 0 then 0 else if m = 1 then N 0 else if m = 2 then N 0 + N 1 else if m = 3 then N 0 + N 1 + N 2 else N 0 + N 1 + N 2 + N 3) →
        mR (d + 5) V 145 45 [some (vR (some (10, 0, 128))), some (vI (Int32.ofNat x)), some (vI (Int32.ofNat m))] [] Q := by
      intro f
      induction f with
      | zero =>
        intro m V x hm hV h640' g1 g2 hx
        have he : m = 4 := by omega
        subst he
        have a644 : wFI V 644 128 = Int32.ofNat nr := (Fr_fi hV (by decide) (by unfold rbF; omega)).trans h1
        rw [e_145_45]
        simp (disch := omega) only [e_145_46, e_145_47, e_145_103, e_145_104, e_145_105, e_145_108, e_145_109, e_145_110, e_145_113, e_145_116, e_145_117, i_lit, i_add, i_mul, i_m1, i_lt, i_le, i_eq, i_cl, i_in, i_ltN, i_Nlt, i_leN, i_Nle, i_eN, i_Ne, i_inN, i_l1, i_l2, mj_cpok, mj_nn, reduceCtorEq, lg_self, Nat.not_lt_zero, Nat.zero_le, Nat.reduceEqDiff, Nat.reduceLT, Nat.reduceLeDiff, true_or, or_true, false_or, or_false, not_true_eq_false, not_false_eq_true, true_imp_iff, false_imp_iff, and_self, wrd, u2, and_true, true_and, and_false, false_and, and_self, ite_true, ite_false, reduceIte, a644]
        (repeat' (first | (with_reducible refine And.intro ?_ ?_) | (with_reducible intro _)))
        all_goals try omega
        rw [hx]
        refine K _ (Fr_sFI (Fr_sFI hV (Or.inl (by unfold rbF; omega))) (Or.inl (by unfold rbF; omega))) g2 ?_ ?_ ?_
        · simp only [mj_cpok, mj_nn, reduceCtorEq, lg_self, Nat.not_lt_zero, Nat.zero_le, Nat.reduceEqDiff, Nat.reduceLT, Nat.reduceLeDiff, true_or, or_true, false_or, or_false, not_true_eq_false, not_false_eq_true, true_imp_iff, false_imp_iff, and_self, wrd, u2, and_true, true_and, and_false, false_and, and_self, ite_true, ite_false, reduceIte]; exact h640'
        · simp only [mj_cpok, mj_nn, reduceCtorEq, lg_self, Nat.not_lt_zero, Nat.zero_le, Nat.reduceEqDiff, Nat.reduceLT, Nat.reduceLeDiff, true_or, or_true, false_or, or_false, not_true_eq_false, not_false_eq_true, true_imp_iff, false_imp_iff, and_self, wrd, u2, and_true, true_and, and_false, false_and, and_self, ite_true, ite_false, reduceIte]
        · simp only [mj_cpok, mj_nn, reduceCtorEq, lg_self, Nat.not_lt_zero, Nat.zero_le, Nat.reduceEqDiff, Nat.reduceLT, Nat.reduceLeDiff, true_or, or_true, false_or, or_false, not_true_eq_false, not_false_eq_true, true_imp_iff, false_imp_iff, and_self, wrd, u2, and_true, true_and, and_false, false_and, and_self, ite_true, ite_false, reduceIte]
      | succ f ih =>
        intro m V x hm hV h640' g1 g2 hx
        have GV := Fr_Gr hV G
        obtain ⟨d1, d2, d3⟩ := g1 m (by omega)
        have bN := hN m (by omega)
        have b0 := hN 0 (by omega)
        have b1 := hN 1 (by omega)
        have b2 := hN 2 (by omega)
        have b3 := hN 3 (by omega)
        have m145 : ¬ 151 + m = 145 + m := by omega
        have m145' : ¬ 145 + m = 151 + m := by omega
        have xle : x ≤ 400 := by
          rw [hx]
          by_cases h0 : m = 0
          · rw [if_pos h0]; omega
          · rw [if_neg h0]
            by_cases h1 : m = 1
            · rw [if_pos h1]; omega
            · rw [if_neg h1]
              by_cases h2 : m = 2
              · rw [if_pos h2]; omega
              · rw [if_neg h2]
                by_cases h3 : m = 3
                · rw [if_pos h3]; omega
                · rw [if_neg h3]; omega
        have nn := ih (m + 1) (cpI (sAI V 143 m (Int32.ofNat (N m))) (151 + m) 0 (145 + m) 0 (9 * N m)) (x + N m) (by omega) (Fr_cpI (Fr_sAI hV (Or.inl (by unfold rbA; omega))) (Or.inl (by unfold rbA; omega))) (by simp only [mj_cpok, mj_nn, reduceCtorEq, lg_self, Nat.not_lt_zero, Nat.zero_le, Nat.reduceEqDiff, Nat.reduceLT, Nat.reduceLeDiff, true_or, or_true, false_or, or_false, not_true_eq_false, not_false_eq_true, true_imp_iff, false_imp_iff, and_self, wrd, u2, and_true, true_and, and_false, false_and, and_self, ite_true, ite_false, reduceIte]; exact h640') (fun q hq4 => ?_) (fun q hq => ?_) ?_
        · rw [e_145_45]
          simp (disch := omega) only [e_145_46, e_145_47, e_145_50, e_145_51, e_145_54, e_145_55, e_145_56, e_145_59, e_145_60, e_145_61, e_145_62, e_145_63, e_145_66, e_145_67, e_145_68, e_145_69, e_145_70, e_145_73, e_145_74, e_145_75, e_145_76, e_145_78, e_145_79, e_145_82, e_145_83, e_145_84, e_145_85, e_145_88, e_145_89, e_145_90, e_145_93, e_145_94, e_145_95, e_145_96, e_145_97, e_145_100, i_lit, i_add, i_mul, i_m1, i_lt, i_le, i_eq, i_cl, i_in, i_ltN, i_Nlt, i_leN, i_Nle, i_eN, i_Ne, i_inN, i_l1, i_l2, mj_cpok, mj_nn, reduceCtorEq, lg_self, Nat.not_lt_zero, Nat.zero_le, Nat.reduceEqDiff, Nat.reduceLT, Nat.reduceLeDiff, true_or, or_true, false_or, or_false, not_true_eq_false, not_false_eq_true, true_imp_iff, false_imp_iff, and_self, wrd, u2, and_true, true_and, and_false, false_and, and_self, ite_true, ite_false, reduceIte, g_665 GV, g_667 GV, g_668 GV, g_666 GV, g_made GV (show m < 4 by omega), g_mach GV (show m < 4 by omega), d1, m145, m145', if_neg]
          (repeat' (first | (with_reducible refine And.intro ?_ ?_) | (with_reducible intro _)))
          all_goals first | omega | exact nn
        · obtain ⟨b1, b2, b3⟩ := g1 q hq4
          refine ⟨?_, fun s hs => ?_, fun s l hs hl => ?_⟩
          · simp (disch := omega) only [mj_cpok, mj_nn, reduceCtorEq, lg_self, Nat.not_lt_zero, Nat.zero_le, Nat.reduceEqDiff, Nat.reduceLT, Nat.reduceLeDiff, true_or, or_true, false_or, or_false, not_true_eq_false, not_false_eq_true, true_imp_iff, false_imp_iff, and_self, wrd, u2, and_true, true_and, and_false, false_and, and_self, ite_true, ite_false, reduceIte, if_neg]; exact b1
          · simp (disch := omega) only [mj_cpok, mj_nn, reduceCtorEq, lg_self, Nat.not_lt_zero, Nat.zero_le, Nat.reduceEqDiff, Nat.reduceLT, Nat.reduceLeDiff, true_or, or_true, false_or, or_false, not_true_eq_false, not_false_eq_true, true_imp_iff, false_imp_iff, and_self, wrd, u2, and_true, true_and, and_false, false_and, and_self, ite_true, ite_false, reduceIte, if_neg]; exact b2 s hs
          · simp (disch := omega) only [mj_cpok, mj_nn, reduceCtorEq, lg_self, Nat.not_lt_zero, Nat.zero_le, Nat.reduceEqDiff, Nat.reduceLT, Nat.reduceLeDiff, true_or, or_true, false_or, or_false, not_true_eq_false, not_false_eq_true, true_imp_iff, false_imp_iff, and_self, wrd, u2, and_true, true_and, and_false, false_and, and_self, ite_true, ite_false, reduceIte, if_neg]; exact b3 s l hs hl
        · by_cases hqm : q = m
          · subst hqm
            refine ⟨bN, ?_, fun s hs => ?_, fun s l hs hl => ?_⟩
            · simp (disch := omega) only [mj_cpok, mj_nn, reduceCtorEq, lg_self, Nat.not_lt_zero, Nat.zero_le, Nat.reduceEqDiff, Nat.reduceLT, Nat.reduceLeDiff, true_or, or_true, false_or, or_false, not_true_eq_false, not_false_eq_true, true_imp_iff, false_imp_iff, and_self, wrd, u2, and_true, true_and, and_false, false_and, and_self, ite_true, ite_false, reduceIte, if_neg]
            · simp (disch := omega) only [mj_cpok, mj_nn, reduceCtorEq, lg_self, Nat.not_lt_zero, Nat.zero_le, Nat.reduceEqDiff, Nat.reduceLT, Nat.reduceLeDiff, true_or, or_true, false_or, or_false, not_true_eq_false, not_false_eq_true, true_imp_iff, false_imp_iff, and_self, wrd, u2, and_true, true_and, and_false, false_and, and_self, ite_true, ite_false, reduceIte, if_neg]
              rw [if_pos (by omega), show 0 + (9 * s - 0) = 9 * s by omega]; exact d2 s hs
            · simp (disch := omega) only [mj_cpok, mj_nn, reduceCtorEq, lg_self, Nat.not_lt_zero, Nat.zero_le, Nat.reduceEqDiff, Nat.reduceLT, Nat.reduceLeDiff, true_or, or_true, false_or, or_false, not_true_eq_false, not_false_eq_true, true_imp_iff, false_imp_iff, and_self, wrd, u2, and_true, true_and, and_false, false_and, and_self, ite_true, ite_false, reduceIte, if_neg]
              rw [if_pos (by omega), show 0 + (9 * s + 1 + l - 0) = 9 * s + 1 + l by omega]; exact d3 s l hs hl
          · obtain ⟨b1, b2, b3, b4⟩ := g2 q (by omega)
            refine ⟨b1, ?_, fun s hs => ?_, fun s l hs hl => ?_⟩
            · simp (disch := omega) only [mj_cpok, mj_nn, reduceCtorEq, lg_self, Nat.not_lt_zero, Nat.zero_le, Nat.reduceEqDiff, Nat.reduceLT, Nat.reduceLeDiff, true_or, or_true, false_or, or_false, not_true_eq_false, not_false_eq_true, true_imp_iff, false_imp_iff, and_self, wrd, u2, and_true, true_and, and_false, false_and, and_self, ite_true, ite_false, reduceIte, if_neg, hqm]; exact b2
            · simp (disch := omega) only [mj_cpok, mj_nn, reduceCtorEq, lg_self, Nat.not_lt_zero, Nat.zero_le, Nat.reduceEqDiff, Nat.reduceLT, Nat.reduceLeDiff, true_or, or_true, false_or, or_false, not_true_eq_false, not_false_eq_true, true_imp_iff, false_imp_iff, and_self, wrd, u2, and_true, true_and, and_false, false_and, and_self, ite_true, ite_false, reduceIte, if_neg]; exact b3 s hs
            · simp (disch := omega) only [mj_cpok, mj_nn, reduceCtorEq, lg_self, Nat.not_lt_zero, Nat.zero_le, Nat.reduceEqDiff, Nat.reduceLT, Nat.reduceLeDiff, true_or, or_true, false_or, or_false, not_true_eq_false, not_false_eq_true, true_imp_iff, false_imp_iff, and_self, wrd, u2, and_true, true_and, and_false, false_and, and_self, ite_true, ite_false, reduceIte, if_neg]; exact b4 s l hs hl
        · rw [hx]
          have hmc : m = 0 ∨ m = 1 ∨ m = 2 ∨ m = 3 := by omega
          rcases hmc with rfl | rfl | rfl | rfl
          · show 0 + N 0 = N 0; omega
          · rfl
          · rfl
          · rfl
    rw [e_145_7]
    simp (disch := omega) only [e_145_8, e_145_9, e_145_41, e_145_42, e_145_43, e_145_44, i_lit, i_add, i_mul, i_m1, i_lt, i_le, i_eq, i_cl, i_in, i_ltN, i_Nlt, i_leN, i_Nle, i_eN, i_Ne, i_inN, i_l1, i_l2, mj_cpok, mj_nn, reduceCtorEq, lg_self, Nat.not_lt_zero, Nat.zero_le, Nat.reduceEqDiff, Nat.reduceLT, Nat.reduceLeDiff, true_or, or_true, false_or, or_false, not_true_eq_false, not_false_eq_true, true_imp_iff, false_imp_iff, and_self, wrd, u2, and_true, true_and, and_false, false_and, and_self, ite_true, ite_false, reduceIte]
    (repeat' (first | (with_reducible refine And.intro ?_ ?_) | (with_reducible intro _)))
    all_goals try omega
    exact tot 4 0 W 0 (by omega) (Fr_weak hF (fun k a q => by unfold rbF0 at q; unfold rbF; omega) (fun a q => by unfold rbA0 at q; unfold rbA; omega) (Nat.le_refl 0) (Nat.le_refl 0)) h640 hq (fun q hq => absurd hq (Nat.not_lt_zero q)) rfl
  -- the loop of modes, once more from the store with 640 set
  have G0 : Gr (sFI w 640 128 (Int32.ofNat 0)) := G_sFI G
  have ru0 : ruEq w (sFI w 640 128 (Int32.ofNat 0)) := ⟨Fr_fi F0 (by decide) (by unfold rbF0; omega), fun k a h1 h2 => Fr_fi F0 (by omega) (by unfold rbF0; omega), fun a h1 h2 => Fr_ai F0 (by omega) (by unfold rbA0; omega)⟩
  have step : ∀ (f m : Nat) (W : MWd), m + f = 4 → rb0 w W → wFI W 640 128 = Int32.ofNat 0 → (∀ q, q < m → rdOk W q (N q) (mvN q) (an q)) → mR (d + 5) W 145 7 [some (vR (some (10, 0, 128))), some (vI (Int32.ofNat m)), none] [] Q := by
    intro f
    induction f with
    | zero =>
      intro m W hm hF h640 hq
      have he : m = 4 := by omega
      subst he
      exact run W hF h640 hq
    | succ f ih =>
      intro m W hm hF h640 hq
      have ru : ruEq w W := ⟨Fr_fi hF (by decide) (by unfold rbF0; omega), fun k a h1 h2 => Fr_fi hF (by omega) (by unfold rbF0; omega), fun a h1 h2 => Fr_ai hF (by omega) (by unfold rbA0; omega)⟩
      have hRW : ∀ r, r < nr → RuleOk W r := fun r hr => RuleOk_Fr hF (by omega) (hR r hr) (fun _ _ _ _ q => by unfold rbF0 at q; omega) (fun a h q => by unfold rbA0 at q; omega)
      have a644 : wFI W 644 128 = Int32.ofNat nr := (Fr_fi hF (by decide) (by unfold rbF0; omega)).trans h1
      rw [e_145_7]
      simp (disch := omega) only [e_145_8, e_145_9, i_lit, i_add, i_mul, i_m1, i_lt, i_le, i_eq, i_cl, i_in, i_ltN, i_Nlt, i_leN, i_Nle, i_eN, i_Ne, i_inN, i_l1, i_l2, mj_cpok, mj_nn, reduceCtorEq, lg_self, Nat.not_lt_zero, Nat.zero_le, Nat.reduceEqDiff, Nat.reduceLT, Nat.reduceLeDiff, true_or, or_true, false_or, or_false, not_true_eq_false, not_false_eq_true, true_imp_iff, false_imp_iff, and_self, wrd, u2, and_true, true_and, and_false, false_and, and_self, ite_true, ite_false, reduceIte]
      refine ⟨fun q => by omega, fun _ => ?_⟩
      refine s_145m (Fr_Gr hF G) hnr hRW a644 (by omega) (isM_congr (ruEq_symm ru) hnr (hM m (by omega))) (fun W' f1 r1 j149 => ?_)
      simp (disch := omega) only [e_145_35, e_145_38, i_lit, i_add, i_mul, i_m1, i_lt, i_le, i_eq, i_cl, i_in, i_ltN, i_Nlt, i_leN, i_Nle, i_eN, i_Ne, i_inN, i_l1, i_l2, mj_cpok, mj_nn, reduceCtorEq, lg_self, Nat.not_lt_zero, Nat.zero_le, Nat.reduceEqDiff, Nat.reduceLT, Nat.reduceLeDiff, true_or, or_true, false_or, or_false, not_true_eq_false, not_false_eq_true, true_imp_iff, false_imp_iff, and_self, wrd, u2, and_true, true_and, and_false, false_and, and_self, ite_true, ite_false, reduceIte]
      refine ih (m + 1) W' (by omega) ?_ ((Fr_fi f1 (by decide) (by omega)).trans h640) (fun q hqm => ?_)
      · exact Fr_trans (x := 0) (y := 0) (x' := 0) (y' := 0) hF (Fr_weak f1 (fun k a q => by unfold rbF0; omega) (fun a q => by unfold rbA0; omega) (Nat.le_refl 0) (Nat.le_refl 0))
      · by_cases hqe : q = m
        · subst hqe; exact r1
        · obtain ⟨b1, b2, b3⟩ := hq q (by omega)
          refine ⟨by rw [j149 q hqe]; exact b1, ?_, ?_⟩
          · rw [Fr_ai f1 (by omega) (by omega)]; exact b2
          · rw [Fr_ai f1 (by omega) (by omega)]; exact b3
  exact step 4 0 _ (by omega) F0 (by simp only [mj_cpok, mj_nn, reduceCtorEq, lg_self, Nat.not_lt_zero, Nat.zero_le, Nat.reduceEqDiff, Nat.reduceLT, Nat.reduceLeDiff, true_or, or_true, false_or, or_false, not_true_eq_false, not_false_eq_true, true_imp_iff, false_imp_iff, and_self, wrd, u2, and_true, true_and, and_false, false_and, and_self, ite_true, ite_false, reduceIte]) (fun q hq => absurd hq (Nat.not_lt_zero q))
end RB
