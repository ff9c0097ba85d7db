/-! build: the class's numbering, whole. -/
section CN
variable {d n e m : Nat} {w : MWd} {Q : MRes → MWd → Prop} {A : Nat → Int32} {mv : Nat → Option Nat} {kd : Nat → Nat}
theorem s_37a (G : Gr w) (he : e = 60 ∨ e = 94) (hm : m < 4) (h1 : wFI w 201 47 = Int32.ofNat 1) (h : Q (.inl none) (sFI w 71 (e + 2 + 8 * m) (Int32.ofNat 0))) :
    mR (d + 4) w 37 0 [some (vR (some (3, 0, 47))), some (vR (some (1, 0, e + 2 + 8 * m))), none, none, none] [] Q := by
  simp (disch := omega) only [e_37_0, e_37_1, e_37_4, e_37_5, e_37_8, e_37_9, e_37_12, e_37_13, e_37_14, e_37_16, e_37_18, e_37_21, e_37_22, e_37_25, e_37_26, e_37_27, e_37_28, e_37_31, e_37_34, e_37_35, e_37_36, e_37_37, e_37_40, e_37_41, e_37_42, e_37_43, e_37_44, e_37_47, e_37_48, e_37_49, e_37_51, e_37_52, e_37_55, e_37_58, e_37_59, e_37_61, e_37_64, e_37_65, e_37_67, e_37_69, e_37_72, e_37_73, e_37_74, e_37_75, e_37_76, e_37_79, e_37_80, e_37_81, e_37_82, e_37_85, e_37_86, e_37_87, e_37_90, e_37_92, e_37_93, e_37_94, e_37_95, e_37_97, e_37_100, e_37_103, e_37_106, e_37_109, e_37_112, e_13_0, e_13_1, e_13_2, e_13_5, i_lit, i_add, i_mul, i_m1, i_lt, i_le, i_eq, i_cl, i_in, i_ltN, i_Nlt, i_leN, i_Nle, i_eN, i_Ne, i_inN, i_l1, i_l2, mj_cpok, mj_nn, reduceCtorEq, lg_self, Nat.not_lt_zero, Nat.zero_le, Nat.reduceEqDiff, Nat.reduceLT, Nat.reduceLeDiff, true_or, or_true, false_or, or_false, not_true_eq_false, not_false_eq_true, true_imp_iff, false_imp_iff, and_self, wrd, u2, and_true, true_and, and_false, false_and, and_self, ite_true, ite_false, reduceIte, mK_n, h1]
  (repeat' (first | (with_reducible refine And.intro ?_ ?_) | (with_reducible intro _)))
  all_goals first | omega | exact h
theorem s_37b (G : Gr w) (he : e = 60 ∨ e = 94) (hm : m < 4) (hF : KF w n A mv) (hk : ∀ i, i < n → wAI w 53 i = Int32.ofNat (kd i)) (hkl : ∀ i, i < n → kd i < n) (hn2 : 2 ≤ n)
    (K : ∀ W N, nEnd kd mv N → N ≤ 100 → nuI w e m n A kd mv (8 * N) W → nuM e m kd mv (8 * N) W → Q (.inl none) W) :
    mR (d + 4) w 37 0 [some (vR (some (3, 0, 47))), some (vR (some (1, 0, e + 2 + 8 * m))), none, none, none] [] Q := by
  have hF' := hF
  obtain ⟨f1, f2, f3, f4, f5, f6⟩ := hF
  have hgs := g_set G he
  have kf : ∀ {W : MWd}, nuFr e m w W → KF W n A mv := fun hW => ⟨f1, f2, (Fr_fi hW (by decide) (by omega)).trans f3, by rw [Fr_ai hW (by decide) (by unfold nuA; omega)]; exact f4, by rw [Fr_ai hW (by decide) (by unfold nuA; omega)]; exact f5, f6⟩
  have kk : ∀ {W : MWd}, nuFr e m w W → ∀ i, i < n → wAI W 53 i = Int32.ofNat (kd i) := fun hW => by rw [Fr_ai hW (by decide) (by unfold nuA; omega)]; exact hk
  have h50 : ∀ (s : Nat) (W : MWd) (l3 l4 : Option MV), nuI w e m n A kd mv (8 * s) W → nuM e m kd mv (8 * s) W → (∀ q, q < s → q < (nSt kd mv (8 * q)).1) → s ≤ (nSt kd mv (8 * s)).1 → (nSt kd mv (8 * s)).1 ≤ n →
      (s < (nSt kd mv (8 * s)).1 → mR (d + 4) W 37 66 [some (vR (some (3, 0, 47))), some (vR (some (1, 0, e + 2 + 8 * m))), some (vI (Int32.ofNat s)), some (vI (Int32.ofNat 0)), l4] [] Q) →
      mR (d + 4) W 37 50 [some (vR (some (3, 0, 47))), some (vR (some (1, 0, e + 2 + 8 * m))), some (vI (Int32.ofNat s)), l3, l4] [] Q := by
    intro s W l3 l4 hI hM hP hs hb KK
    have i1 := hI.2.1
    rw [e_37_50]
    simp (disch := omega) only [e_37_51, e_37_52, e_37_55, e_37_58, e_37_59, e_37_61, e_37_64, e_37_65, e_37_112, i_lit, i_add, i_mul, i_m1, i_lt, i_le, i_eq, i_cl, i_in, i_ltN, i_Nlt, i_leN, i_Nle, i_eN, i_Ne, i_inN, i_l1, i_l2, mj_cpok, mj_nn, reduceCtorEq, lg_self, Nat.not_lt_zero, Nat.zero_le, Nat.reduceEqDiff, Nat.reduceLT, Nat.reduceLeDiff, true_or, or_true, false_or, or_false, not_true_eq_false, not_false_eq_true, true_imp_iff, false_imp_iff, and_self, wrd, u2, and_true, true_and, and_false, false_and, and_self, ite_true, ite_false, reduceIte, i1]
    refine ⟨fun hle => K W s ⟨hP, by omega⟩ (by omega) hI hM, fun hlt => ⟨fun q => by omega, fun _ => KK hlt⟩⟩
  have h66 : ∀ (f s l : Nat) (W : MWd) (l4 : Option MV), 8 * s + l + f = 800 → l < 8 → nuI w e m n A kd mv (8 * s + l) W → nuM e m kd mv (8 * s + l) W → (∀ q, q ≤ s → q < (nSt kd mv (8 * q)).1) →
      mR (d + 4) W 37 66 [some (vR (some (3, 0, 47))), some (vR (some (1, 0, e + 2 + 8 * m))), some (vI (Int32.ofNat s)), some (vI (Int32.ofNat l)), l4] [] Q := by
    intro f
    induction f with
    | zero =>
      intro s l W l4 hf hl hI hM hP
      exfalso
      have h1 := hP s (Nat.le_refl s)
      have h2 := (nSt_bd hkl f1 f6 (run_lt hP (show 8 * s ≤ 8 * s + 8 by omega))).2
      omega
    | succ f ih =>
      intro s l W l4 hf hl hI hM hP
      have hI' := hI
      obtain ⟨hW, i1, i2, i3, T, dep, i4, i5, i6⟩ := hI
      have G' := Fr_Gr hW G
      obtain ⟨bv, bn⟩ := nSt_bd hkl f1 f6 (run_lt hP (show 8 * s + l ≤ 8 * s + 8 by omega))
      have hs1 := hP s (Nat.le_refl s)
      have hs2 := nSt_mono (kd := kd) (mv := mv) (show 8 * s ≤ 8 * s + l by omega)
      have hd8 : (8 * s + l) / 8 = s := by omega
      have hm8 : (8 * s + l) % 8 = l := by omega
      have hsO := bv s (by omega)
      have e56 := (i2 s (by omega)).1
      have hcs := nStep_cases (kd := kd) (mv := mv) (nSt kd mv (8 * s + l)) (8 * s + l)
      rw [hd8, hm8] at hcs
      have hst : nSt kd mv (8 * s + l + 1) = nStep kd mv (nSt kd mv (8 * s + l)) (8 * s + l) := rfl
      have hmv : nMv kd mv (8 * s + l) = nTgt kd mv (nSt kd mv (8 * s + l)) (8 * s + l) := rfl
      have bn1 := (nSt_bd hkl f1 f6 (run_lt hP (show 8 * s + l + 1 ≤ 8 * s + 8 by omega))).2
      -- the move is set
      have fin : ∀ (W' : MWd) (l4 : Int32), nuI w e m n A kd mv (8 * s + l + 1) W' → (∀ q, q < 8 * s + l → wAI W' (e + 3 + 8 * m) q = wAI W (e + 3 + 8 * m) q) → l4 = en (nMv kd mv (8 * s + l)) →
          mR (d + 4) W' 37 92 [some (vR (some (3, 0, 47))), some (vR (some (1, 0, e + 2 + 8 * m))), some (vI (Int32.ofNat s)), some (vI (Int32.ofNat l)), some (vI l4)] [] Q := by
        intro W' l4 g1 g2 g3
        have g1' := g1
        obtain ⟨jW, j1, j2, j3, T', dep', j4, j5, j6⟩ := g1'
        have GW := Fr_Gr jW G
        have hgW := g_set GW he
        have hz2 := nSt_mono (kd := kd) (mv := mv) (show 8 * s + l ≤ 8 * s + l + 1 by omega)
        have nn : mR (d + 4) (sAI W' (e + 3 + 8 * m) (s * 8 + l) l4) 37 66 [some (vR (some (3, 0, 47))), some (vR (some (1, 0, e + 2 + 8 * m))), some (vI (Int32.ofNat s)), some (vI (Int32.ofNat (l + 1))), some (vI l4)] [] Q := by
          have c1 : nuI w e m n A kd mv (8 * s + l + 1) (sAI W' (e + 3 + 8 * m) (s * 8 + l) l4) := by
            refine ⟨Fr_sAI jW (Or.inl (by unfold nuA; omega)), j1, fun k hk' => ?_, fun c hc hne => ?_, T', dep', j4, fun k hk1 hk' => ?_, fun k hk' => ?_⟩
            · rw [sAI_row (by omega), sAI_row (by omega), sAI_row (by omega)]; exact j2 k hk'
            · rw [sAI_row (by omega)]; exact j3 c hc hne
            · rw [sAI_row (by omega), sAI_row (by omega)]; exact j5 k hk1 hk'
            · rw [sAI_row (by omega)]; exact j6 k hk'
          have c2 : nuM e m kd mv (8 * s + l + 1) (sAI W' (e + 3 + 8 * m) (s * 8 + l) l4) := by
            intro q hq
            show u2 (wAI W') (e + 3 + 8 * m) (s * 8 + l) l4 (e + 3 + 8 * m) q = _
            rw [u2_at, Nat.mul_comm s 8]
            by_cases hqt : q = 8 * s + l
            · rw [if_pos hqt, hqt]; exact g3
            · rw [if_neg hqt, g2 q (by omega)]; exact hM q (by omega)
          by_cases hl8 : l + 1 < 8
          · exact ih s (l + 1) _ _ (by omega) hl8 c1 c2 hP
          · have hl7 : l = 7 := by omega
            subst hl7
            have e8 : 8 * s + 7 + 1 = 8 * (s + 1) := by omega
            rw [e8] at c1 c2 bn1
            rw [e_37_66]
            simp (disch := omega) only [e_37_67, e_37_69, e_37_106, e_37_109, i_lit, i_add, i_mul, i_m1, i_lt, i_le, i_eq, i_cl, i_in, i_ltN, i_Nlt, i_leN, i_Nle, i_eN, i_Ne, i_inN, i_l1, i_l2, mj_cpok, mj_nn, reduceCtorEq, lg_self, Nat.not_lt_zero, Nat.zero_le, Nat.reduceEqDiff, Nat.reduceLT, Nat.reduceLeDiff, true_or, or_true, false_or, or_false, not_true_eq_false, not_false_eq_true, true_imp_iff, false_imp_iff, and_self, wrd, u2, and_true, true_and, and_false, false_and, and_self, ite_true, ite_false, reduceIte]
            refine ⟨?_, fun q => by omega⟩
            refine h50 (s + 1) _ _ _ c1 c2 (fun q hq => hP q (by omega)) ?_ bn1 (fun hlt => ?_)
            · have := nSt_mono (kd := kd) (mv := mv) (show 8 * s ≤ 8 * (s + 1) by omega); omega
            · refine ih (s + 1) 0 _ _ (by omega) (by omega) c1 c2 (fun q hq => ?_)
              by_cases hqs : q = s + 1
              · subst hqs; exact hlt
              · exact hP q (by omega)
        simp (disch := omega) only [e_37_92, e_37_93, e_37_94, e_37_95, e_37_97, e_15_0, e_15_1, e_15_2, e_15_5, e_15_8, e_15_9, e_15_12, e_15_13, e_15_15, e_15_18, e_15_19, e_15_22, e_15_23, e_15_25, e_15_26, e_15_27, e_15_28, e_15_29, e_15_30, e_16_0, e_16_1, e_16_4, e_16_5, e_16_6, e_16_9, e_16_12, e_16_13, e_16_15, e_16_18, e_16_19, e_16_22, e_16_23, i_lit, i_add, i_mul, i_m1, i_lt, i_le, i_eq, i_cl, i_in, i_ltN, i_Nlt, i_leN, i_Nle, i_eN, i_Ne, i_inN, i_l1, i_l2, mj_cpok, mj_nn, reduceCtorEq, lg_self, Nat.not_lt_zero, Nat.zero_le, Nat.reduceEqDiff, Nat.reduceLT, Nat.reduceLeDiff, true_or, or_true, false_or, or_false, not_true_eq_false, not_false_eq_true, true_imp_iff, false_imp_iff, and_self, wrd, u2, and_true, true_and, and_false, false_and, and_self, ite_true, ite_false, reduceIte, mK_v, mK_n, j1, gs_64 hgW hm, e_37_100, e_37_103]
        (repeat' (first | (with_reducible refine And.intro ?_ ?_) | (with_reducible intro _)))
        all_goals first | omega | exact nn
      rw [e_37_66]
      simp (disch := omega) only [e_37_67, e_37_69, e_37_72, e_37_73, e_37_74, e_37_75, e_37_76, e_37_79, e_37_80, e_37_81, e_37_82, i_lit, i_add, i_mul, i_m1, i_lt, i_le, i_eq, i_cl, i_in, i_ltN, i_Nlt, i_leN, i_Nle, i_eN, i_Ne, i_inN, i_l1, i_l2, mj_cpok, mj_nn, reduceCtorEq, lg_self, Nat.not_lt_zero, Nat.zero_le, Nat.reduceEqDiff, Nat.reduceLT, Nat.reduceLeDiff, true_or, or_true, false_or, or_false, not_true_eq_false, not_false_eq_true, true_imp_iff, false_imp_iff, and_self, wrd, u2, and_true, true_and, and_false, false_and, and_self, ite_true, ite_false, reduceIte, g_200 G', e56]
      (repeat' (first | (with_reducible refine And.intro ?_ ?_) | (with_reducible intro _)))
      all_goals try omega
      refine s_36 G' (kf hW) (kk hW) hsO hl ?_
      simp (disch := omega) only [mK_v, e_37_85, e_37_86, e_37_87, i_lit, i_add, i_mul, i_m1, i_lt, i_le, i_eq, i_cl, i_in, i_ltN, i_Nlt, i_leN, i_Nle, i_eN, i_Ne, i_inN, i_l1, i_l2, mj_cpok, mj_nn, reduceCtorEq, lg_self, Nat.not_lt_zero, Nat.zero_le, Nat.reduceEqDiff, Nat.reduceLT, Nat.reduceLeDiff, true_or, or_true, false_or, or_false, not_true_eq_false, not_false_eq_true, true_imp_iff, false_imp_iff, and_self, wrd, u2, and_true, true_and, and_false, false_and, and_self, ite_true, ite_false, reduceIte]
      rcases hcs with ⟨c1, c2⟩ | ⟨k, hk1, c1, c2⟩ | ⟨a, ha, c1, c2, c3⟩
      · have hno : mv (8 * (nSt kd mv (8 * s + l)).2 s + l) = none := by
          unfold nTgt at c1
          rw [hd8, hm8] at c1
          cases hx : mv (8 * (nSt kd mv (8 * s + l)).2 s + l) with
          | none => rfl
          | some a => rw [hx] at c1; cases c1
        rw [hno]
        refine s_38N ?_
        simp (disch := omega) only [mK_v, e_37_90, i_lit, i_add, i_mul, i_m1, i_lt, i_le, i_eq, i_cl, i_in, i_ltN, i_Nlt, i_leN, i_Nle, i_eN, i_Ne, i_inN, i_l1, i_l2, mj_cpok, mj_nn, reduceCtorEq, lg_self, Nat.not_lt_zero, Nat.zero_le, Nat.reduceEqDiff, Nat.reduceLT, Nat.reduceLeDiff, true_or, or_true, false_or, or_false, not_true_eq_false, not_false_eq_true, true_imp_iff, false_imp_iff, and_self, wrd, u2, and_true, true_and, and_false, false_and, and_self, ite_true, ite_false, reduceIte]
        refine fin W NN ?_ (fun _ _ => rfl) (by rw [hmv, c1]; rfl)
        obtain ⟨a1, a2, a3, a4, T1, dep1, a5, a6, a7⟩ := hI'
        unfold nuI
        rw [hst, c2]
        exact ⟨a1, a2, a3, a4, T1, dep1, a5, fun k h1 h2 => by
          obtain ⟨b1, b2⟩ := a6 k h1 h2
          exact ⟨by omega, b2⟩, a7⟩
      · have hyes : ∃ a, mv (8 * (nSt kd mv (8 * s + l)).2 s + l) = some a ∧ fdK (nSt kd mv (8 * s + l)).2 (kd a) (nSt kd mv (8 * s + l)).1 = k := by
          unfold nTgt at c1
          rw [hd8, hm8] at c1
          cases hx : mv (8 * (nSt kd mv (8 * s + l)).2 s + l) with
          | none => rw [hx] at c1; cases c1
          | some a => rw [hx] at c1; exact ⟨a, rfl, Option.some.inj c1⟩
        obtain ⟨a, ha, hfd⟩ := hyes
        have hkO : (nSt kd mv (8 * s + l)).2 k = kd a := by
          rcases (fdK_spec (nSt kd mv (8 * s + l)).2 (kd a) (nSt kd mv (8 * s + l)).1).1 with h | h
          · rw [hfd] at h; exact h.2
          · omega
        have haN := f6 _ a (by omega) ha
        have hkaN := hkl a haN
        have e55 := (i2 k hk1).2.1
        rw [hkO] at e55
        rw [ha]
        show mR (d + 3) W 38 0 [some (vR (some (3, 0, 47))), some (vR (some (1, 0, e + 2 + 8 * m))), some (vI (Int32.ofNat (kd a))), some (vI (Int32.ofNat s)), some (vI (Int32.ofNat l)), none] [] _
        refine s_38o (d := d + 1) G' (by omega) (by omega) e55 ?_
        simp (disch := omega) only [mK_v, e_37_90, i_lit, i_add, i_mul, i_m1, i_lt, i_le, i_eq, i_cl, i_in, i_ltN, i_Nlt, i_leN, i_Nle, i_eN, i_Ne, i_inN, i_l1, i_l2, mj_cpok, mj_nn, reduceCtorEq, lg_self, Nat.not_lt_zero, Nat.zero_le, Nat.reduceEqDiff, Nat.reduceLT, Nat.reduceLeDiff, true_or, or_true, false_or, or_false, not_true_eq_false, not_false_eq_true, true_imp_iff, false_imp_iff, and_self, wrd, u2, and_true, true_and, and_false, false_and, and_self, ite_true, ite_false, reduceIte]
        refine fin W (Int32.ofNat k) ?_ (fun _ _ => rfl) (by rw [hmv, c1]; rfl)
        obtain ⟨a1, a2, a3, a4, T1, dep1, a5, a6, a7⟩ := hI'
        unfold nuI
        rw [hst, c2]
        exact ⟨a1, a2, a3, a4, T1, dep1, a5, fun k h1 h2 => by
          obtain ⟨b1, b2⟩ := a6 k h1 h2
          exact ⟨by omega, b2⟩, a7⟩
      · have haN := f6 _ a (by omega) ha
        have hkaN := hkl a haN
        have e55 := i3 (kd a) hkaN c3
        have zlt : (nSt kd mv (8 * s + l)).1 < n := by
          rw [hst, c2] at bn1
          have : (nSt kd mv (8 * s + l)).1 + 1 ≤ n := bn1
          omega
        have ed := i6 s (by omega)
        rw [ha]
        show mR (d + 3) W 38 0 [some (vR (some (3, 0, 47))), some (vR (some (1, 0, e + 2 + 8 * m))), some (vI (Int32.ofNat (kd a))), some (vI (Int32.ofNat s)), some (vI (Int32.ofNat l)), none] [] _
        refine s_38n (d := d + 1) (s := (nSt kd mv (8 * s + l)).1) (D := Int32.ofNat (dep s + 1)) G' he hm (by omega) (by omega) e55 i1 (Or.inr ⟨s, dep s, by omega, by omega, rfl, ed.1, rfl⟩) ?_
        simp (disch := omega) only [mK_v, e_37_90, i_lit, i_add, i_mul, i_m1, i_lt, i_le, i_eq, i_cl, i_in, i_ltN, i_Nlt, i_leN, i_Nle, i_eN, i_Ne, i_inN, i_l1, i_l2, mj_cpok, mj_nn, reduceCtorEq, lg_self, Nat.not_lt_zero, Nat.zero_le, Nat.reduceEqDiff, Nat.reduceLT, Nat.reduceLeDiff, true_or, or_true, false_or, or_false, not_true_eq_false, not_false_eq_true, true_imp_iff, false_imp_iff, and_self, wrd, u2, and_true, true_and, and_false, false_and, and_self, ite_true, ite_false, reduceIte]
        refine fin _ _ ?_ (fun q hq => ?_) (by rw [hmv, c1]; rfl)
        · have a50 : wAI W 50 = wAI w 50 := Fr_ai hW (by decide) (by unfold nuA; omega)
          refine nuI_new (T0 := 0) (dp := 0) he hm hI' bn f2 (run_lt hP (by omega)) (by rw [hd8]; omega) hkaN f4 (hst.trans c2) c3 (by rw [hd8]) (by rw [hm8]) (fun dp h9 h10 => ?_)
          rw [hd8] at h9 h10
          rw [ed.1, i_eq (by omega) (by omega)] at h9
          rw [h9]
        · unfold nw38
          simp (disch := omega) only [mj_cpok, mj_nn, reduceCtorEq, lg_self, Nat.not_lt_zero, Nat.zero_le, Nat.reduceEqDiff, Nat.reduceLT, Nat.reduceLeDiff, true_or, or_true, false_or, or_false, not_true_eq_false, not_false_eq_true, true_imp_iff, false_imp_iff, and_self, wrd, u2, and_true, true_and, and_false, false_and, and_self, ite_true, ite_false, reduceIte, if_neg]
  have h15 : ∀ (f i : Nat) (W : MWd), i + f = 100 → nuFr e m w W → wFI W 71 (e + 2 + 8 * m) = Int32.ofNat 0 → (∀ q, q < i → wAI W 55 q = NN) → mR (d + 4) W 37 15 [some (vR (some (3, 0, 47))), some (vR (some (1, 0, e + 2 + 8 * m))), some (vI (Int32.ofNat i)), none, none] [] Q := by
    intro f
    induction f with
    | zero =>
      intro i W hi hW g1 g2
      have hi' : i = 100 := by omega
      subst hi'
      have G' := Fr_Gr hW G
      have ek := kk hW 0 (by omega)
      have k0 := hkl 0 (by omega)
      rw [e_37_15]
      simp (disch := omega) only [e_37_16, e_37_18, e_37_34, e_37_35, e_37_36, e_37_37, e_37_40, e_37_41, e_37_42, e_37_43, e_37_44, i_lit, i_add, i_mul, i_m1, i_lt, i_le, i_eq, i_cl, i_in, i_ltN, i_Nlt, i_leN, i_Nle, i_eN, i_Ne, i_inN, i_l1, i_l2, mj_cpok, mj_nn, reduceCtorEq, lg_self, Nat.not_lt_zero, Nat.zero_le, Nat.reduceEqDiff, Nat.reduceLT, Nat.reduceLeDiff, true_or, or_true, false_or, or_false, not_true_eq_false, not_false_eq_true, true_imp_iff, false_imp_iff, and_self, wrd, u2, and_true, true_and, and_false, false_and, and_self, ite_true, ite_false, reduceIte, g_197 G', ek]
      (repeat' (first | (with_reducible refine And.intro ?_ ?_) | (with_reducible intro _)))
      all_goals try omega
      refine s_38n (d := d + 1) (s := 0) (D := Int32.ofNat 0) G' he hm (by omega) (by omega) (g2 _ (by omega)) g1 (Or.inl ⟨rfl, rfl⟩) ?_
      simp (disch := omega) only [mK_v, e_37_47, e_37_48, e_37_49, i_lit, i_add, i_mul, i_m1, i_lt, i_le, i_eq, i_cl, i_in, i_ltN, i_Nlt, i_leN, i_Nle, i_eN, i_Ne, i_inN, i_l1, i_l2, mj_cpok, mj_nn, reduceCtorEq, lg_self, Nat.not_lt_zero, Nat.zero_le, Nat.reduceEqDiff, Nat.reduceLT, Nat.reduceLeDiff, true_or, or_true, false_or, or_false, not_true_eq_false, not_false_eq_true, true_imp_iff, false_imp_iff, and_self, wrd, u2, and_true, true_and, and_false, false_and, and_self, ite_true, ite_false, reduceIte]
      have c1 : nuI w e m n A kd mv (8 * 0) (nw38 W e m 0 (kd 0) (wAI W 50 (kd 0)) NN NN (Int32.ofNat 0)) := by
        have a50 : wAI W 50 = wAI w 50 := Fr_ai hW (by decide) (by unfold nuA; omega)
        have z1 : (nSt kd mv (8 * 0)).1 = 1 := rfl
        have z2 : ∀ k, (nSt kd mv (8 * 0)).2 k = kd 0 := fun _ => rfl
        refine ⟨?_, ?_, fun k hk' => ?_, fun c hc hne => ?_, fun _ => 0, fun _ => 0, rfl, fun k hk1 hk' => by omega, fun k hk' => ?_⟩
        · exact Fr_sAI (Fr_sAI (Fr_sFI (Fr_sAI (Fr_sAI (Fr_sAI (Fr_sAI hW (Or.inl (by unfold nuA; omega))) (Or.inl (by unfold nuA; omega))) (Or.inl (by unfold nuA; omega))) (Or.inl (by unfold nuA; omega))) (Or.inl ⟨rfl, rfl⟩)) (Or.inl (by unfold nuA; omega))) (Or.inl (by unfold nuA; omega))
        · unfold nw38; simp only [mj_cpok, mj_nn, reduceCtorEq, lg_self, Nat.not_lt_zero, Nat.zero_le, Nat.reduceEqDiff, Nat.reduceLT, Nat.reduceLeDiff, true_or, or_true, false_or, or_false, not_true_eq_false, not_false_eq_true, true_imp_iff, false_imp_iff, and_self, wrd, u2, and_true, true_and, and_false, false_and, and_self, ite_true, ite_false, reduceIte]; rfl
        · have hk0 : k = 0 := by omega
          subst hk0
          rw [z2]
          unfold nw38
          simp (disch := omega) only [mj_cpok, mj_nn, reduceCtorEq, lg_self, Nat.not_lt_zero, Nat.zero_le, Nat.reduceEqDiff, Nat.reduceLT, Nat.reduceLeDiff, true_or, or_true, false_or, or_false, not_true_eq_false, not_false_eq_true, true_imp_iff, false_imp_iff, and_self, wrd, u2, and_true, true_and, and_false, false_and, and_self, ite_true, ite_false, reduceIte, if_neg]
          rw [a50]; exact f4 _ k0
        · have hcc : ¬ c = kd 0 := fun q => hne 0 (by omega) q.symm
          unfold nw38
          simp (disch := omega) only [mj_cpok, mj_nn, reduceCtorEq, lg_self, Nat.not_lt_zero, Nat.zero_le, Nat.reduceEqDiff, Nat.reduceLT, Nat.reduceLeDiff, true_or, or_true, false_or, or_false, not_true_eq_false, not_false_eq_true, true_imp_iff, false_imp_iff, and_self, wrd, u2, and_true, true_and, and_false, false_and, and_self, ite_true, ite_false, reduceIte, if_neg, hcc]
          exact g2 c (by omega)
        · have hk0 : k = 0 := by omega
          subst hk0
          unfold nw38
          simp (disch := omega) only [mj_cpok, mj_nn, reduceCtorEq, lg_self, Nat.not_lt_zero, Nat.zero_le, Nat.reduceEqDiff, Nat.reduceLT, Nat.reduceLeDiff, true_or, or_true, false_or, or_false, not_true_eq_false, not_false_eq_true, true_imp_iff, false_imp_iff, and_self, wrd, u2, and_true, true_and, and_false, false_and, and_self, ite_true, ite_false, reduceIte, if_neg]
      have c2 : nuM e m kd mv (8 * 0) (nw38 W e m 0 (kd 0) (wAI W 50 (kd 0)) NN NN (Int32.ofNat 0)) := fun q hq => by omega
      exact h50 0 _ _ _ c1 c2 (fun q hq => absurd hq (Nat.not_lt_zero q)) (Nat.zero_le _) (show 1 ≤ n by omega) (fun _ => h66 800 0 0 _ _ (by omega) (by omega) c1 c2 (fun q hq => by
        have hq0 : q = 0 := by omega
        subst hq0
        exact Nat.zero_lt_one))
    | succ f ih =>
      intro i W hi hW g1 g2
      rw [e_37_15]
      simp (disch := omega) only [e_37_16, e_37_18, e_37_21, e_37_22, e_37_25, e_37_26, e_37_27, e_37_28, e_37_31, i_lit, i_add, i_mul, i_m1, i_lt, i_le, i_eq, i_cl, i_in, i_ltN, i_Nlt, i_leN, i_Nle, i_eN, i_Ne, i_inN, i_l1, i_l2, mj_cpok, mj_nn, reduceCtorEq, lg_self, Nat.not_lt_zero, Nat.zero_le, Nat.reduceEqDiff, Nat.reduceLT, Nat.reduceLeDiff, true_or, or_true, false_or, or_false, not_true_eq_false, not_false_eq_true, true_imp_iff, false_imp_iff, and_self, wrd, u2, and_true, true_and, and_false, false_and, and_self, ite_true, ite_false, reduceIte, g_199 (Fr_Gr hW G)]
      (repeat' (first | (with_reducible refine And.intro ?_ ?_) | (with_reducible intro _)))
      all_goals try omega
      refine ih (i + 1) _ (by omega) (Fr_sAI hW (Or.inl (by unfold nuA; omega))) g1 (fun q hq => ?_)
      simp only [mj_cpok, mj_nn, reduceCtorEq, lg_self, Nat.not_lt_zero, Nat.zero_le, Nat.reduceEqDiff, Nat.reduceLT, Nat.reduceLeDiff, true_or, or_true, false_or, or_false, not_true_eq_false, not_false_eq_true, true_imp_iff, false_imp_iff, and_self, wrd, u2, and_true, true_and, and_false, false_and, and_self, ite_true, ite_false, reduceIte]
      by_cases hqi : q = i
      · rw [if_pos hqi]
      · rw [if_neg hqi]; exact g2 q (by omega)
  simp (disch := omega) only [e_37_0, e_37_1, e_13_0, e_13_1, e_13_2, e_13_5, e_37_4, e_37_5, e_37_8, e_37_9, e_37_13, e_37_14, i_lit, i_add, i_mul, i_m1, i_lt, i_le, i_eq, i_cl, i_in, i_ltN, i_Nlt, i_leN, i_Nle, i_eN, i_Ne, i_inN, i_l1, i_l2, mj_cpok, mj_nn, reduceCtorEq, lg_self, Nat.not_lt_zero, Nat.zero_le, Nat.reduceEqDiff, Nat.reduceLT, Nat.reduceLeDiff, true_or, or_true, false_or, or_false, not_true_eq_false, not_false_eq_true, true_imp_iff, false_imp_iff, and_self, wrd, u2, and_true, true_and, and_false, false_and, and_self, ite_true, ite_false, reduceIte, mK_n, f3]
  (repeat' (first | (with_reducible refine And.intro ?_ ?_) | (with_reducible intro _)))
  all_goals try omega
  exact h15 100 0 _ (by omega) (Fr_sFI Fr_refl (Or.inl ⟨rfl, rfl⟩)) (by simp only [mj_cpok, mj_nn, reduceCtorEq, lg_self, Nat.not_lt_zero, Nat.zero_le, Nat.reduceEqDiff, Nat.reduceLT, Nat.reduceLeDiff, true_or, or_true, false_or, or_false, not_true_eq_false, not_false_eq_true, true_imp_iff, false_imp_iff, and_self, wrd, u2, and_true, true_and, and_false, false_and, and_self, ite_true, ite_false, reduceIte]) (fun q hq => absurd hq (Nat.not_lt_zero q))
end CN
