/-! The class finds all sets of a mode. -/
def R28 (a : Nat) : Prop := 48 ≤ a ∧ a ≤ 52
/-- what stands when t letters are done -/
def csI (w : MWd) (nr m t : Nat) (W : MWd) : Prop := mkFr R28 w W ∧ (sSt (nxF w nr m) t).1 ≤ 100 ∧ wFI W 201 47 = Int32.ofNat (sSt (nxF w nr m) t).1 ∧
  (∀ k r, k < (sSt (nxF w nr m) t).1 → r < 12 → wAI W 48 (12 * k + r) = (sSt (nxF w nr m) t).2 k r) ∧ (∀ q, q < t → wAI W 49 q = en (sMv (nxF w nr m) q))
/-- the answers of the first s sets -/
def csA (w : MWd) (nr m s t : Nat) (W : MWd) : Prop := ∀ k, k < s → wAI W 50 k = en (ansF w nr m ((sSt (nxF w nr m) t).2 k) 12)
theorem i_m2 {k : Nat} (h : k < 2147483648) : Int32.ofNat k = -Int32.ofNat 2 ↔ False := by
  rw [← Int32.toInt_inj, i_ti h, show (-Int32.ofNat 2).toInt = -2 from rfl]
  exact iff_of_false (by omega) id
theorem i_N2 : (NN = -Int32.ofNat 2) = False := eq_false (by decide)
section CS
variable {d : Nat} {w : MWd} {Q : MRes → MWd → Prop}
theorem wn_nx {nr m s l r : Nat} {x : Nat → Int32} (hl : l < 8) : (if r < nr then bhF w nr m s x r &&& wAI w (8 + 3 * r) l else Int32.ofNat 0) = nxF w nr m s x l r := by
  unfold nxF
  by_cases h : r < nr
  · rw [if_pos h, if_pos ⟨h, hl⟩]
  · rw [if_neg h, if_neg (fun q => h q.1)]
theorem s_28 {nr m : Nat} (G : Gr w) (hnr : nr ≤ 12) (hr : wFI w 385 4 = Int32.ofNat nr) (hm : m < 4)
    (K1 : ∀ W n, sEnd (nxF w nr m) n → csI w nr m (8 * n) W → csA w nr m n (8 * n) W → Q (.inl (some (vI (Int32.ofNat 1)))) W)
    (K0 : ∀ W, mkFr R28 w W → sBad (nxF w nr m) → Q (.inl (some (vI (Int32.ofNat 0)))) W) :
    mR (d + 4) w 28 0 [some (vR (some (3, 0, 47))), some (vR (some (6, 0, 4))), some (vI (Int32.ofNat m)), none, none, none] [] Q := by
  have h28 : ∀ (s : Nat) (W : MWd) (l4 l5 : Option MV), csI w nr m (8 * s) W → csA w nr m s (8 * s) W → (∀ q, q < s → q < (sSt (nxF w nr m) (8 * q)).1) → s ≤ (sSt (nxF w nr m) (8 * s)).1 →
      (∀ W' l5, csI w nr m (8 * s) W' → csA w nr m (s + 1) (8 * s) W' → s < (sSt (nxF w nr m) (8 * s)).1 → (∀ r, r < 12 → wAI W' 51 r = bhF w nr m s ((sSt (nxF w nr m) (8 * s)).2 s) r) →
        mR (d + 4) W' 28 52 [some (vR (some (3, 0, 47))), some (vR (some (6, 0, 4))), some (vI (Int32.ofNat m)), some (vI (Int32.ofNat s)), some (vI (Int32.ofNat 0)), l5] [] Q) →
      mR (d + 4) W 28 28 [some (vR (some (3, 0, 47))), some (vR (some (6, 0, 4))), some (vI (Int32.ofNat m)), some (vI (Int32.ofNat s)), l4, l5] [] Q := by
    intro s W l4 l5 hI hA hP hs K
    have hI' := hI
    obtain ⟨hF, i1, i2, i3, i4⟩ := hI
    have G' := Fr_Gr hF G
    have ru := mkFr_ru hF (fun a h1 h2 q => by unfold R28 at q; omega)
    rw [e_28_28]
    simp (disch := omega) only [e_28_0, e_28_1, e_28_2, e_28_5, e_28_6, e_28_8, e_28_10, e_28_13, e_28_14, e_28_17, e_28_18, e_28_19, e_28_20, e_28_23, e_28_26, e_28_27, e_28_29, e_28_30, e_28_33, e_28_36, e_28_37, e_28_39, e_28_42, e_28_43, e_28_44, e_28_45, e_28_46, e_28_49, e_28_50, e_28_54, e_28_56, e_28_59, e_28_60, e_28_61, e_28_63, e_28_66, e_28_68, e_28_70, e_28_72, e_28_75, e_28_76, e_28_77, e_28_78, e_28_81, e_28_82, e_28_84, e_28_85, e_28_87, e_28_88, e_28_90, e_28_91, e_28_94, e_28_97, e_28_100, e_28_103, e_28_104, i_lit, i_add, i_mul, i_m1, i_lt, i_le, i_eq, i_cl, i_in, i_ltN, i_Nlt, i_leN, i_Nle, i_eN, i_Ne, i_inN, i_l1, i_l2, mj_cpok, mj_nn, reduceCtorEq, lg_self, Nat.not_lt_zero, Nat.zero_le, Nat.reduceEqDiff, Nat.reduceLT, Nat.reduceLeDiff, true_or, or_true, false_or, or_false, not_true_eq_false, not_false_eq_true, true_imp_iff, false_imp_iff, and_self, wrd, u2, and_true, true_and, and_false, false_and, and_self, ite_true, ite_false, reduceIte, i2]
    refine ⟨fun hn => ?_, fun hn => ⟨fun q => by omega, fun _ => ?_⟩⟩
    · have hsn : (sSt (nxF w nr m) (8 * s)).1 = s := by omega
      exact K1 W s ⟨hP, hsn, by omega⟩ hI' hA
    · refine s_29 G' hnr (ru.1.trans hr) hm (by omega) (fun w' f1 f2 f3 f4 => ?_)
      have row : (fun q => if q < 12 then wAI W 48 (12 * s + q) else Int32.ofNat 0) = fun q => if q < 12 then (sSt (nxF w nr m) (8 * s)).2 s q else Int32.ofNat 0 := by
        funext q
        by_cases hq : q < 12
        · rw [if_pos hq, if_pos hq]; exact i3 s q hn hq
        · rw [if_neg hq, if_neg hq]
      have bhx : ∀ r, r < 12 → bhF W nr m s (fun q => wAI W 48 (12 * s + q)) r = bhF w nr m s ((sSt (nxF w nr m) (8 * s)).2 s) r := by
        intro r hr'
        rw [ruEq_bh ru hnr]
        unfold bhF
        dsimp only
        rw [i3 s r hn hr']
      have anx : ∀ r, r ≤ 12 → ansF W nr m (fun q => wAI W 48 (12 * s + q)) r = ansF w nr m ((sSt (nxF w nr m) (8 * s)).2 s) r := by
        intro r
        rw [ruEq_an ru hnr]
        induction r with
        | zero => intro _; rfl
        | succ r ih =>
          intro hr'
          unfold ansF
          rw [ih (by omega), i3 s r hn (by omega)]
      simp (disch := omega) only [e_28_0, e_28_1, e_28_2, e_28_5, e_28_6, e_28_8, e_28_10, e_28_13, e_28_14, e_28_17, e_28_18, e_28_19, e_28_20, e_28_23, e_28_26, e_28_27, e_28_29, e_28_30, e_28_33, e_28_36, e_28_37, e_28_39, e_28_42, e_28_43, e_28_44, e_28_45, e_28_46, e_28_49, e_28_50, e_28_54, e_28_56, e_28_59, e_28_60, e_28_61, e_28_63, e_28_66, e_28_68, e_28_70, e_28_72, e_28_75, e_28_76, e_28_77, e_28_78, e_28_81, e_28_82, e_28_84, e_28_85, e_28_87, e_28_88, e_28_90, e_28_91, e_28_94, e_28_97, e_28_100, e_28_103, e_28_104, i_lit, i_add, i_mul, i_m1, i_lt, i_le, i_eq, i_cl, i_in, i_ltN, i_Nlt, i_leN, i_Nle, i_eN, i_Ne, i_inN, i_l1, i_l2, mj_cpok, mj_nn, reduceCtorEq, lg_self, Nat.not_lt_zero, Nat.zero_le, Nat.reduceEqDiff, Nat.reduceLT, Nat.reduceLeDiff, true_or, or_true, false_or, or_false, not_true_eq_false, not_false_eq_true, true_imp_iff, false_imp_iff, and_self, wrd, u2, and_true, true_and, and_false, false_and, and_self, ite_true, ite_false, reduceIte, mK_n]
      refine K w' l5 ⟨?_, i1, ?_, fun k r hk hr' => ?_, fun q hq => ?_⟩ (fun k hk => ?_) hn (fun r hr' => ?_)
      · exact Fr_trans (x := 0) (y := 0) (x' := 0) (y' := 0) hF (Fr_weak f1 (fun _ _ q => q.elim) (fun a q => by unfold R28; omega) (Nat.le_refl 0) (Nat.le_refl 0))
      · rw [Fr_fi f1 (by decide) (fun q => q)]; exact i2
      · rw [Fr_ai f1 (by decide) (by decide)]; exact i3 k r hk hr'
      · rw [Fr_ai f1 (by decide) (by decide)]; exact i4 q hq
      · by_cases hks : k = s
        · subst hks; rw [f3, anx 12 (Nat.le_refl _)]
        · rw [f4 k hks]; exact hA k (by omega)
      · rw [f2 r hr', bhx r hr']
  have h52 : ∀ (f s l : Nat) (W : MWd) (l5 : Option MV), 8 * s + l + f = 800 → l < 8 → csI w nr m (8 * s + l) W → csA w nr m (s + 1) (8 * s + l) W → (∀ q, q ≤ s → q < (sSt (nxF w nr m) (8 * q)).1) → (∀ r, r < 12 → wAI W 51 r = bhF w nr m s ((sSt (nxF w nr m) (8 * s)).2 s) r) →
      mR (d + 4) W 28 52 [some (vR (some (3, 0, 47))), some (vR (some (6, 0, 4))), some (vI (Int32.ofNat m)), some (vI (Int32.ofNat s)), some (vI (Int32.ofNat l)), l5] [] Q := by
    intro f
    induction f with
    | zero =>
      intro s l W l5 hf hl hI hA hP hB
      exfalso
      have h1 := hP s (Nat.le_refl s)
      have h2 := sSt_mono (f := nxF w nr m) (show 8 * s ≤ 8 * s + l by omega)
      have h3 := hI.2.1
      omega
    | succ f ih =>
      intro s l W l5 hf hl hI hA hP hB
      have hI' := hI
      obtain ⟨hF, i1, i2, i3, i4⟩ := hI
      have G' := Fr_Gr hF G
      have ru := mkFr_ru hF (fun a h1 h2 q => by unfold R28 at q; omega)
      have hs1 := hP s (Nat.le_refl s)
      have hs2 := sSt_mono (f := nxF w nr m) (show 8 * s ≤ 8 * s + l by omega)
      have hks : (sSt (nxF w nr m) (8 * s + l)).2 s = (sSt (nxF w nr m) (8 * s)).2 s := sSt_keep (by omega) hs1
      have hz1 := sSt_pos (f := nxF w nr m) (8 * s + l)
      have hd8 : (8 * s + l) / 8 = s := by omega
      have hm8 : (8 * s + l) % 8 = l := by omega
      have nxe : ∀ r, sNx (nxF w nr m) (sSt (nxF w nr m) (8 * s + l)) (8 * s + l) r = (if r < nr then bhF w nr m s ((sSt (nxF w nr m) (8 * s)).2 s) r &&& wAI W (8 + 3 * r) l else Int32.ofNat 0) := by
        intro r
        unfold sNx
        rw [hd8, hm8, hks, ← wn_nx hl]
        by_cases hrn : r < nr
        · rw [if_pos hrn, if_pos hrn, ru.2.2 _ (by omega) (by omega)]
        · rw [if_neg hrn, if_neg hrn]
      have hcs := sStep_cases (f := nxF w nr m) (sSt (nxF w nr m) (8 * s + l)) hz1 (8 * s + l)
      have hst : sSt (nxF w nr m) (8 * s + l + 1) = sStep (nxF w nr m) (sSt (nxF w nr m) (8 * s + l)) (8 * s + l) := rfl
      have hmv : sMv (nxF w nr m) (8 * s + l) = sTgt (nxF w nr m) (sSt (nxF w nr m) (8 * s + l)) (8 * s + l) := rfl
      -- one letter is done
      have fin : ∀ (W' : MWd) (l5 : Option MV), csI w nr m (8 * s + l + 1) W' → csA w nr m (s + 1) (8 * s + l + 1) W' → (∀ r, r < 12 → wAI W' 51 r = bhF w nr m s ((sSt (nxF w nr m) (8 * s)).2 s) r) →
          mR (d + 4) W' 28 52 [some (vR (some (3, 0, 47))), some (vR (some (6, 0, 4))), some (vI (Int32.ofNat m)), some (vI (Int32.ofNat s)), some (vI (Int32.ofNat (l + 1))), l5] [] Q := by
        intro W' l5 g1 g2 g3
        by_cases hl8 : l + 1 < 8
        · exact ih s (l + 1) W' l5 (by omega) hl8 g1 g2 hP g3
        · have hl7 : l = 7 := by omega
          subst hl7
          have e8 : 8 * s + 7 + 1 = 8 * (s + 1) := by omega
          rw [e8] at g1 g2
          rw [e_28_52]
          simp (disch := omega) only [e_28_0, e_28_1, e_28_2, e_28_5, e_28_6, e_28_8, e_28_10, e_28_13, e_28_14, e_28_17, e_28_18, e_28_19, e_28_20, e_28_23, e_28_26, e_28_27, e_28_29, e_28_30, e_28_33, e_28_36, e_28_37, e_28_39, e_28_42, e_28_43, e_28_44, e_28_45, e_28_46, e_28_49, e_28_50, e_28_54, e_28_56, e_28_59, e_28_60, e_28_61, e_28_63, e_28_66, e_28_68, e_28_70, e_28_72, e_28_75, e_28_76, e_28_77, e_28_78, e_28_81, e_28_82, e_28_84, e_28_85, e_28_87, e_28_88, e_28_90, e_28_91, e_28_94, e_28_97, e_28_100, e_28_103, e_28_104, i_lit, i_add, i_mul, i_m1, i_lt, i_le, i_eq, i_cl, i_in, i_ltN, i_Nlt, i_leN, i_Nle, i_eN, i_Ne, i_inN, i_l1, i_l2, mj_cpok, mj_nn, reduceCtorEq, lg_self, Nat.not_lt_zero, Nat.zero_le, Nat.reduceEqDiff, Nat.reduceLT, Nat.reduceLeDiff, true_or, or_true, false_or, or_false, not_true_eq_false, not_false_eq_true, true_imp_iff, false_imp_iff, and_self, wrd, u2, and_true, true_and, and_false, false_and, and_self, ite_true, ite_false, reduceIte]
          refine ⟨?_, fun q => by omega⟩
          refine h28 (s + 1) W' _ _ g1 g2 (fun q hq => hP q (by omega)) ?_ (fun W'' l5' b1 b2 b3 b4 => ?_)
          · have := sSt_mono (f := nxF w nr m) (show 8 * s ≤ 8 * (s + 1) by omega); omega
          · refine ih (s + 1) 0 W'' l5' (by omega) (by omega) b1 b2 (fun q hq => ?_) b4
            by_cases hqs : q = s + 1
            · subst hqs; exact b3
            · exact hP q (by omega)
      rw [e_28_52]
      simp (disch := omega) only [e_28_0, e_28_1, e_28_2, e_28_5, e_28_6, e_28_8, e_28_10, e_28_13, e_28_14, e_28_17, e_28_18, e_28_19, e_28_20, e_28_23, e_28_26, e_28_27, e_28_29, e_28_30, e_28_33, e_28_36, e_28_37, e_28_39, e_28_42, e_28_43, e_28_44, e_28_45, e_28_46, e_28_49, e_28_50, e_28_54, e_28_56, e_28_59, e_28_60, e_28_61, e_28_63, e_28_66, e_28_68, e_28_70, e_28_72, e_28_75, e_28_76, e_28_77, e_28_78, e_28_81, e_28_82, e_28_84, e_28_85, e_28_87, e_28_88, e_28_90, e_28_91, e_28_94, e_28_97, e_28_100, e_28_103, e_28_104, i_lit, i_add, i_mul, i_m1, i_lt, i_le, i_eq, i_cl, i_in, i_ltN, i_Nlt, i_leN, i_Nle, i_eN, i_Ne, i_inN, i_l1, i_l2, mj_cpok, mj_nn, reduceCtorEq, lg_self, Nat.not_lt_zero, Nat.zero_le, Nat.reduceEqDiff, Nat.reduceLT, Nat.reduceLeDiff, true_or, or_true, false_or, or_false, not_true_eq_false, not_false_eq_true, true_imp_iff, false_imp_iff, and_self, wrd, u2, and_true, true_and, and_false, false_and, and_self, ite_true, ite_false, reduceIte]
      refine ⟨fun q => by omega, fun _ => ?_⟩
      refine s_30 G' hnr (ru.1.trans hr) hz1 i1 i2 hl hB (fun w' f1 z0 => ?_) (fun w' k f1 z0 w0 k1 k2 k3 k4 => ?_) (fun w' f1 z0 w0 k4 k5 => ?_) (fun w' f1 z0 w0 k4 k5 => ?_)
      · have hz : zrow (sNx (nxF w nr m) (sSt (nxF w nr m) (8 * s + l)) (8 * s + l)) = true := zrow_iff.mpr fun r hr' => (nxe r).trans (z0 r hr')
        rcases hcs with ⟨-, c2, c3⟩ | ⟨k', -, -, c1, -⟩ | ⟨c1, -⟩
        · rw [c3] at hst
          rw [c2] at hmv
          simp (disch := omega) only [e_28_0, e_28_1, e_28_2, e_28_5, e_28_6, e_28_8, e_28_10, e_28_13, e_28_14, e_28_17, e_28_18, e_28_19, e_28_20, e_28_23, e_28_26, e_28_27, e_28_29, e_28_30, e_28_33, e_28_36, e_28_37, e_28_39, e_28_42, e_28_43, e_28_44, e_28_45, e_28_46, e_28_49, e_28_50, e_28_54, e_28_56, e_28_59, e_28_60, e_28_61, e_28_63, e_28_66, e_28_68, e_28_70, e_28_72, e_28_75, e_28_76, e_28_77, e_28_78, e_28_81, e_28_82, e_28_84, e_28_85, e_28_87, e_28_88, e_28_90, e_28_91, e_28_94, e_28_97, e_28_100, e_28_103, e_28_104, i_lit, i_add, i_mul, i_m1, i_lt, i_le, i_eq, i_cl, i_in, i_ltN, i_Nlt, i_leN, i_Nle, i_eN, i_Ne, i_inN, i_l1, i_l2, mj_cpok, mj_nn, reduceCtorEq, lg_self, Nat.not_lt_zero, Nat.zero_le, Nat.reduceEqDiff, Nat.reduceLT, Nat.reduceLeDiff, true_or, or_true, false_or, or_false, not_true_eq_false, not_false_eq_true, true_imp_iff, false_imp_iff, and_self, wrd, u2, and_true, true_and, and_false, false_and, and_self, ite_true, ite_false, reduceIte, mK_v, g_193 (Fr_Gr f1 G'), i_N2]
          refine ⟨by omega, fin _ _ ⟨?_, ?_, ?_, fun k r hk hr' => ?_, fun q hq => ?_⟩ (fun k hk => ?_) (fun r hr' => ?_)⟩
          · exact Fr_sAI (Fr_trans (x := 0) (y := 0) (x' := 0) (y' := 0) hF (Fr_weak f1 (fun _ _ q => q.elim) (fun a q => by unfold R28; omega) (Nat.le_refl 0) (Nat.le_refl 0))) (Or.inl (by unfold R28; omega))
          · rw [hst]; exact i1
          · rw [hst]; exact (Fr_fi f1 (by decide) (fun q => q)).trans i2
          · rw [hst] at hk ⊢
            show wAI w' 48 _ = _
            rw [Fr_ai f1 (by decide) (by decide)]; exact i3 k r hk hr'
          · show u2 (wAI w') 49 (s * 8 + l) NN 49 q = _
            rw [u2_at, Nat.mul_comm s 8]
            by_cases hqt : q = 8 * s + l
            · rw [if_pos hqt, hqt, hmv]; rfl
            · rw [if_neg hqt, Fr_ai f1 (by decide) (by decide)]; exact i4 q (by omega)
          · rw [hst]
            show wAI w' 50 k = _
            rw [Fr_ai f1 (by decide) (by decide)]; exact hA k hk
          · show wAI w' 51 r = _
            rw [Fr_ai f1 (by decide) (by decide)]; exact hB r hr'
        · rw [hz] at c1; cases c1
        · rw [hz] at c1; cases c1
      · have hz : zrow (sNx (nxF w nr m) (sSt (nxF w nr m) (8 * s + l)) (8 * s + l)) = false := Bool.eq_false_iff.mpr fun q => z0 fun r hr' => (nxe r).symm.trans (zrow_iff.mp q r hr')
        have hrow : ∀ j, j < (sSt (nxF w nr m) (8 * s + l)).1 → ((∀ r, r < 12 → wAI W 48 (12 * j + r) = wAI w' 52 r) ↔ srow ((sSt (nxF w nr m) (8 * s + l)).2 j) (sNx (nxF w nr m) (sSt (nxF w nr m) (8 * s + l)) (8 * s + l)) = true) := by
          intro j hj
          rw [srow_iff]
          constructor
          · intro h r hr'; rw [← i3 j r hj hr', h r hr', w0 r hr', nxe r]
          · intro h r hr'; rw [i3 j r hj hr', h r hr', w0 r hr', nxe r]
        rcases hcs with ⟨c1, -⟩ | ⟨k', e1, e2, -, c2, c3, e3, e4⟩ | ⟨-, -, -, e4⟩
        · rw [hz] at c1; cases c1
        · have hkk : k' = k := by
            rcases Nat.lt_trichotomy k' k with h9 | h9 | h9
            · exact absurd ((hrow k' e2).mpr e3) (k4 k' e1 h9)
            · exact h9
            · have h10 := (hrow k k2).mp k3
              rw [e4 k k1 h9] at h10; cases h10
          subst hkk
          rw [c3] at hst
          rw [c2] at hmv
          simp (disch := omega) only [e_28_0, e_28_1, e_28_2, e_28_5, e_28_6, e_28_8, e_28_10, e_28_13, e_28_14, e_28_17, e_28_18, e_28_19, e_28_20, e_28_23, e_28_26, e_28_27, e_28_29, e_28_30, e_28_33, e_28_36, e_28_37, e_28_39, e_28_42, e_28_43, e_28_44, e_28_45, e_28_46, e_28_49, e_28_50, e_28_54, e_28_56, e_28_59, e_28_60, e_28_61, e_28_63, e_28_66, e_28_68, e_28_70, e_28_72, e_28_75, e_28_76, e_28_77, e_28_78, e_28_81, e_28_82, e_28_84, e_28_85, e_28_87, e_28_88, e_28_90, e_28_91, e_28_94, e_28_97, e_28_100, e_28_103, e_28_104, i_lit, i_add, i_mul, i_m1, i_lt, i_le, i_eq, i_cl, i_in, i_ltN, i_Nlt, i_leN, i_Nle, i_eN, i_Ne, i_inN, i_l1, i_l2, mj_cpok, mj_nn, reduceCtorEq, lg_self, Nat.not_lt_zero, Nat.zero_le, Nat.reduceEqDiff, Nat.reduceLT, Nat.reduceLeDiff, true_or, or_true, false_or, or_false, not_true_eq_false, not_false_eq_true, true_imp_iff, false_imp_iff, and_self, wrd, u2, and_true, true_and, and_false, false_and, and_self, ite_true, ite_false, reduceIte, mK_v, g_193 (Fr_Gr f1 G'), i_m2]
          refine ⟨by omega, fin _ _ ⟨?_, ?_, ?_, fun k r hk hr' => ?_, fun q hq => ?_⟩ (fun k hk => ?_) (fun r hr' => ?_)⟩
          · exact Fr_sAI (Fr_trans (x := 0) (y := 0) (x' := 0) (y' := 0) hF (Fr_weak f1 (fun _ _ q => q.elim) (fun a q => by unfold R28; omega) (Nat.le_refl 0) (Nat.le_refl 0))) (Or.inl (by unfold R28; omega))
          · rw [hst]; exact i1
          · rw [hst]; exact (Fr_fi f1 (by decide) (fun q => q)).trans i2
          · rw [hst] at hk ⊢
            show wAI w' 48 _ = _
            rw [Fr_ai f1 (by decide) (by decide)]; exact i3 k r hk hr'
          · show u2 (wAI w') 49 (s * 8 + l) (Int32.ofNat k') 49 q = _
            rw [u2_at, Nat.mul_comm s 8]
            by_cases hqt : q = 8 * s + l
            · rw [if_pos hqt, hqt, hmv]; rfl
            · rw [if_neg hqt, Fr_ai f1 (by decide) (by decide)]; exact i4 q (by omega)
          · rw [hst]
            show wAI w' 50 k = _
            rw [Fr_ai f1 (by decide) (by decide)]; exact hA k hk
          · show wAI w' 51 r = _
            rw [Fr_ai f1 (by decide) (by decide)]; exact hB r hr'
        · have h10 := (hrow k k2).mp k3
          rw [e4 k k1 k2] at h10; cases h10
      · have hz : zrow (sNx (nxF w nr m) (sSt (nxF w nr m) (8 * s + l)) (8 * s + l)) = false := Bool.eq_false_iff.mpr fun q => z0 fun r hr' => (nxe r).symm.trans (zrow_iff.mp q r hr')
        rcases hcs with ⟨c1, -⟩ | ⟨k', e1, e2, -, c2, c3, e3, e4⟩ | ⟨-, c2, c3, e4⟩
        · rw [hz] at c1; cases c1
        · refine absurd (fun r hr' => ?_) (k4 k' e1 e2)
          rw [i3 k' r e2 hr', srow_iff.mp e3 r hr', w0 r hr', nxe r]
        · rw [c3] at hst
          simp (disch := omega) only [e_28_0, e_28_1, e_28_2, e_28_5, e_28_6, e_28_8, e_28_10, e_28_13, e_28_14, e_28_17, e_28_18, e_28_19, e_28_20, e_28_23, e_28_26, e_28_27, e_28_29, e_28_30, e_28_33, e_28_36, e_28_37, e_28_39, e_28_42, e_28_43, e_28_44, e_28_45, e_28_46, e_28_49, e_28_50, e_28_54, e_28_56, e_28_59, e_28_60, e_28_61, e_28_63, e_28_66, e_28_68, e_28_70, e_28_72, e_28_75, e_28_76, e_28_77, e_28_78, e_28_81, e_28_82, e_28_84, e_28_85, e_28_87, e_28_88, e_28_90, e_28_91, e_28_94, e_28_97, e_28_100, e_28_103, e_28_104, i_lit, i_add, i_mul, i_m1, i_lt, i_le, i_eq, i_cl, i_in, i_ltN, i_Nlt, i_leN, i_Nle, i_eN, i_Ne, i_inN, i_l1, i_l2, mj_cpok, mj_nn, reduceCtorEq, lg_self, Nat.not_lt_zero, Nat.zero_le, Nat.reduceEqDiff, Nat.reduceLT, Nat.reduceLeDiff, true_or, or_true, false_or, or_false, not_true_eq_false, not_false_eq_true, true_imp_iff, false_imp_iff, and_self, wrd, u2, and_true, true_and, and_false, false_and, and_self, ite_true, ite_false, reduceIte, mK_v]
          refine K0 _ (Fr_trans (x := 0) (y := 0) (x' := 0) (y' := 0) hF (Fr_weak f1 (fun _ _ q => q.elim) (fun a q => by unfold R28; omega) (Nat.le_refl 0) (Nat.le_refl 0))) ⟨8 * s + l, fun q hq => ?_, k5, ?_⟩
          · exact hP q (by omega)
          · rw [hst]; show _ + 1 = 101; rw [k5]
      · have hz : zrow (sNx (nxF w nr m) (sSt (nxF w nr m) (8 * s + l)) (8 * s + l)) = false := Bool.eq_false_iff.mpr fun q => z0 fun r hr' => (nxe r).symm.trans (zrow_iff.mp q r hr')
        rcases hcs with ⟨c1, -⟩ | ⟨k', e1, e2, -, c2, c3, e3, e4⟩ | ⟨-, c2, c3, e4⟩
        · rw [hz] at c1; cases c1
        · refine absurd (fun r hr' => ?_) (k4 k' e1 e2)
          rw [i3 k' r e2 hr', srow_iff.mp e3 r hr', w0 r hr', nxe r]
        · rw [c3] at hst
          rw [c2] at hmv
          simp (disch := omega) only [e_28_0, e_28_1, e_28_2, e_28_5, e_28_6, e_28_8, e_28_10, e_28_13, e_28_14, e_28_17, e_28_18, e_28_19, e_28_20, e_28_23, e_28_26, e_28_27, e_28_29, e_28_30, e_28_33, e_28_36, e_28_37, e_28_39, e_28_42, e_28_43, e_28_44, e_28_45, e_28_46, e_28_49, e_28_50, e_28_54, e_28_56, e_28_59, e_28_60, e_28_61, e_28_63, e_28_66, e_28_68, e_28_70, e_28_72, e_28_75, e_28_76, e_28_77, e_28_78, e_28_81, e_28_82, e_28_84, e_28_85, e_28_87, e_28_88, e_28_90, e_28_91, e_28_94, e_28_97, e_28_100, e_28_103, e_28_104, i_lit, i_add, i_mul, i_m1, i_lt, i_le, i_eq, i_cl, i_in, i_ltN, i_Nlt, i_leN, i_Nle, i_eN, i_Ne, i_inN, i_l1, i_l2, mj_cpok, mj_nn, reduceCtorEq, lg_self, Nat.not_lt_zero, Nat.zero_le, Nat.reduceEqDiff, Nat.reduceLT, Nat.reduceLeDiff, true_or, or_true, false_or, or_false, not_true_eq_false, not_false_eq_true, true_imp_iff, false_imp_iff, and_self, wrd, u2, and_true, true_and, and_false, false_and, and_self, ite_true, ite_false, reduceIte, mK_v, g_193 (Fr_Gr f1 G'), i_m2]
          have h1e : (sSt (nxF w nr m) (8 * s + l + 1)).1 = (sSt (nxF w nr m) (8 * s + l)).1 + 1 := by rw [hst]
          have h2e : ∀ k, (sSt (nxF w nr m) (8 * s + l + 1)).2 k = if k = (sSt (nxF w nr m) (8 * s + l)).1 then sNx (nxF w nr m) (sSt (nxF w nr m) (8 * s + l)) (8 * s + l) else (sSt (nxF w nr m) (8 * s + l)).2 k := by intro k; rw [hst]; rfl
          refine ⟨by omega, fin _ _ ⟨?_, ?_, ?_, fun k r hk hr' => ?_, fun q hq => ?_⟩ (fun k hk => ?_) (fun r hr' => ?_)⟩
          · exact Fr_sAI (Fr_sFI (Fr_cpI (Fr_trans (x := 0) (y := 0) (x' := 0) (y' := 0) hF (Fr_weak f1 (fun _ _ q => q.elim) (fun a q => by unfold R28; omega) (Nat.le_refl 0) (Nat.le_refl 0))) (Or.inl (by unfold R28; omega))) (Or.inl ⟨rfl, rfl⟩)) (Or.inl (by unfold R28; omega))
          · rw [h1e]; omega
          · rw [h1e]; simp only [mj_cpok, mj_nn, reduceCtorEq, lg_self, Nat.not_lt_zero, Nat.zero_le, Nat.reduceEqDiff, Nat.reduceLT, Nat.reduceLeDiff, true_or, or_true, false_or, or_false, not_true_eq_false, not_false_eq_true, true_imp_iff, false_imp_iff, and_self, wrd, u2, and_true, true_and, and_false, false_and, and_self, ite_true, ite_false, reduceIte]
          · rw [h1e] at hk
            rw [h2e]
            simp only [mj_cpok, mj_nn, reduceCtorEq, lg_self, Nat.not_lt_zero, Nat.zero_le, Nat.reduceEqDiff, Nat.reduceLT, Nat.reduceLeDiff, true_or, or_true, false_or, or_false, not_true_eq_false, not_false_eq_true, true_imp_iff, false_imp_iff, and_self, wrd, u2, and_true, true_and, and_false, false_and, and_self, ite_true, ite_false, reduceIte]
            by_cases hkn : k = (sSt (nxF w nr m) (8 * s + l)).1
            · rw [if_pos hkn, if_pos (by omega), nxe r, ← w0 r hr']
              congr 1; omega
            · rw [if_neg hkn, if_neg (by omega), Fr_ai f1 (by decide) (by decide)]; exact i3 k r (by omega) hr'
          · simp only [mj_cpok, mj_nn, reduceCtorEq, lg_self, Nat.not_lt_zero, Nat.zero_le, Nat.reduceEqDiff, Nat.reduceLT, Nat.reduceLeDiff, true_or, or_true, false_or, or_false, not_true_eq_false, not_false_eq_true, true_imp_iff, false_imp_iff, and_self, wrd, u2, and_true, true_and, and_false, false_and, and_self, ite_true, ite_false, reduceIte]
            rw [Nat.mul_comm s 8]
            by_cases hqt : q = 8 * s + l
            · rw [if_pos hqt, hqt, hmv]; rfl
            · rw [if_neg hqt, Fr_ai f1 (by decide) (by decide)]; exact i4 q (by omega)
          · rw [h2e, if_neg (by omega)]
            simp only [mj_cpok, mj_nn, reduceCtorEq, lg_self, Nat.not_lt_zero, Nat.zero_le, Nat.reduceEqDiff, Nat.reduceLT, Nat.reduceLeDiff, true_or, or_true, false_or, or_false, not_true_eq_false, not_false_eq_true, true_imp_iff, false_imp_iff, and_self, wrd, u2, and_true, true_and, and_false, false_and, and_self, ite_true, ite_false, reduceIte]
            rw [Fr_ai f1 (by decide) (by decide)]; exact hA k hk
          · simp only [mj_cpok, mj_nn, reduceCtorEq, lg_self, Nat.not_lt_zero, Nat.zero_le, Nat.reduceEqDiff, Nat.reduceLT, Nat.reduceLeDiff, true_or, or_true, false_or, or_false, not_true_eq_false, not_false_eq_true, true_imp_iff, false_imp_iff, and_self, wrd, u2, and_true, true_and, and_false, false_and, and_self, ite_true, ite_false, reduceIte]
            rw [Fr_ai f1 (by decide) (by decide)]; exact hB r hr'
  have h7 : ∀ (f r : Nat) (W : MWd), r + f = 12 → mkFr R28 w W → wFI W 201 47 = Int32.ofNat 1 → (∀ q, q < r → wAI W 48 q = Int32.ofNat 0) → mR (d + 4) W 28 7 [some (vR (some (3, 0, 47))), some (vR (some (6, 0, 4))), some (vI (Int32.ofNat m)), some (vI (Int32.ofNat r)), none, none] [] Q := by
    intro f
    induction f with
    | zero =>
      intro r W hf hF g1 g2
      have he : r = 12 := by omega
      subst he
      rw [e_28_7]
      simp (disch := omega) only [e_28_0, e_28_1, e_28_2, e_28_5, e_28_6, e_28_8, e_28_10, e_28_13, e_28_14, e_28_17, e_28_18, e_28_19, e_28_20, e_28_23, e_28_26, e_28_27, e_28_29, e_28_30, e_28_33, e_28_36, e_28_37, e_28_39, e_28_42, e_28_43, e_28_44, e_28_45, e_28_46, e_28_49, e_28_50, e_28_54, e_28_56, e_28_59, e_28_60, e_28_61, e_28_63, e_28_66, e_28_68, e_28_70, e_28_72, e_28_75, e_28_76, e_28_77, e_28_78, e_28_81, e_28_82, e_28_84, e_28_85, e_28_87, e_28_88, e_28_90, e_28_91, e_28_94, e_28_97, e_28_100, e_28_103, e_28_104, i_lit, i_add, i_mul, i_m1, i_lt, i_le, i_eq, i_cl, i_in, i_ltN, i_Nlt, i_leN, i_Nle, i_eN, i_Ne, i_inN, i_l1, i_l2, mj_cpok, mj_nn, reduceCtorEq, lg_self, Nat.not_lt_zero, Nat.zero_le, Nat.reduceEqDiff, Nat.reduceLT, Nat.reduceLeDiff, true_or, or_true, false_or, or_false, not_true_eq_false, not_false_eq_true, true_imp_iff, false_imp_iff, and_self, wrd, u2, and_true, true_and, and_false, false_and, and_self, ite_true, ite_false, reduceIte]
      refine h28 0 W _ _ ⟨hF, (show 1 ≤ 100 by decide), g1, fun k r hk hr' => ?_, fun q hq => absurd hq (Nat.not_lt_zero q)⟩ (fun k hk => absurd hk (Nat.not_lt_zero k)) (fun q hq => absurd hq (Nat.not_lt_zero q)) (Nat.zero_le _) (fun W'' l5' b1 b2 b3 b4 => ?_)
      · have hk1 : k < 1 := hk
        have hk0 : k = 0 := by omega
        subst hk0
        rw [g2 _ (by omega)]; rfl
      · exact h52 800 0 0 W'' l5' (by omega) (by omega) b1 b2 (fun q hq => by have hq0 : q = 0 := by omega
                                                                              subst hq0; exact b3) b4
    | succ f ih =>
      intro r W hf hF g1 g2
      rw [e_28_7]
      simp (disch := omega) only [e_28_0, e_28_1, e_28_2, e_28_5, e_28_6, e_28_8, e_28_10, e_28_13, e_28_14, e_28_17, e_28_18, e_28_19, e_28_20, e_28_23, e_28_26, e_28_27, e_28_29, e_28_30, e_28_33, e_28_36, e_28_37, e_28_39, e_28_42, e_28_43, e_28_44, e_28_45, e_28_46, e_28_49, e_28_50, e_28_54, e_28_56, e_28_59, e_28_60, e_28_61, e_28_63, e_28_66, e_28_68, e_28_70, e_28_72, e_28_75, e_28_76, e_28_77, e_28_78, e_28_81, e_28_82, e_28_84, e_28_85, e_28_87, e_28_88, e_28_90, e_28_91, e_28_94, e_28_97, e_28_100, e_28_103, e_28_104, i_lit, i_add, i_mul, i_m1, i_lt, i_le, i_eq, i_cl, i_in, i_ltN, i_Nlt, i_leN, i_Nle, i_eN, i_Ne, i_inN, i_l1, i_l2, mj_cpok, mj_nn, reduceCtorEq, lg_self, Nat.not_lt_zero, Nat.zero_le, Nat.reduceEqDiff, Nat.reduceLT, Nat.reduceLeDiff, true_or, or_true, false_or, or_false, not_true_eq_false, not_false_eq_true, true_imp_iff, false_imp_iff, and_self, wrd, u2, and_true, true_and, and_false, false_and, and_self, ite_true, ite_false, reduceIte, g_192 (Fr_Gr hF G)]
      (repeat' (first | (with_reducible refine And.intro ?_ ?_) | (with_reducible intro _)))
      all_goals try omega
      refine ih (r + 1) _ (by omega) (Fr_sAI hF (Or.inl (by unfold R28; omega))) g1 (fun q hq => ?_)
      simp only [mj_cpok, mj_nn, reduceCtorEq, lg_self, Nat.not_lt_zero, Nat.zero_le, Nat.reduceEqDiff, Nat.reduceLT, Nat.reduceLeDiff, true_or, or_true, false_or, or_false, not_true_eq_false, not_false_eq_true, true_imp_iff, false_imp_iff, and_self, wrd, u2, and_true, true_and, and_false, false_and, and_self, ite_true, ite_false, reduceIte]
      by_cases hqr : q = r
      · rw [if_pos hqr]
      · rw [if_neg hqr]; exact g2 q (by omega)
  rw [e_28_0, e_28_1, e_28_2, e_28_5, e_28_6]
  exact h7 12 0 _ (by omega) (Fr_sFI Fr_refl (Or.inl ⟨rfl, rfl⟩)) (by simp only [mj_cpok, mj_nn, reduceCtorEq, lg_self, Nat.not_lt_zero, Nat.zero_le, Nat.reduceEqDiff, Nat.reduceLT, Nat.reduceLeDiff, true_or, or_true, false_or, or_false, not_true_eq_false, not_false_eq_true, true_imp_iff, false_imp_iff, and_self, wrd, u2, and_true, true_and, and_false, false_and, and_self, ite_true, ite_false, reduceIte, i_lit]) (fun q hq => absurd hq (Nat.not_lt_zero q))
end CS
