/-! scan: the class's loop. -/
abbrev scZ : Nat → Nat → Prop := fun k a => (k = 2 ∨ k = 3 ∨ k = 4 ∨ k = 5 ∨ k = 6 ∨ k = 7 ∨ k = 8) ∧ a = 57
abbrev scY : Nat → Prop := fun a => a = 58 ∨ a = 59
def scI (W : MWd) (n : Nat) (z : scS) : Prop := z.1 < 4 ∧ z.2.1 ≤ n ∧ z.2.2.1 ≤ 500 ∧ z.2.2.2.1 ≤ z.2.1 ∧ z.2.2.2.2.1 ≤ z.2.1 ∧ wFI W 2 57 = Int32.ofNat z.2.2.1 ∧ wFI W 3 57 = Int32.ofNat z.1 ∧ wFI W 4 57 = Int32.ofNat z.2.1 ∧ wFI W 5 57 = Int32.ofNat z.2.2.2.1 ∧ wFI W 6 57 = Int32.ofNat z.2.2.2.2.1 ∧ ∀ i, i < 4 * z.2.2.1 → wAI W 58 i = z.2.2.2.2.2 i
def scOk (w : MWd) (nr n : Nat) (B NM : Nat → Nat) (MU AN : Nat → Nat → Option Nat) : Prop :=
  nr ≤ 12 ∧ (∀ r, r < nr → RuleOk w r) ∧ (∀ m, m < 4 → (∀ t a, t < 8 * NM m → MU m t = some a → a < NM m) ∧ ∀ s q, s < NM m → AN m s = some q → q < nr) ∧
  ∀ m p r L, m < 4 → p ≤ n → pcs (NM m) (MU m) (AN m) B p (n - p) = (some r, L) → wAI w 133 r = Int32.ofNat 1 → ∀ np tp u, RuleA w r np tp → (∀ i, i < L → B (p + i) = 97 + u i) → ∃ k, 1 ≤ k ∧ k ≤ L ∧ cutRw w r np L u k
theorem ClsA_Fr {F : Nat → Nat → Prop} {R : Nat → Prop} {x y c m N : Nat} {mv an : Nat → Option Nat} {w w' : MWd} (h : Fr F R x y w w') (hc : c = 60 ∨ c = 94) (hm : m < 4) (hF : ∀ k a, 60 ≤ a → a < 128 → ¬ F k a) (hR : ∀ a, 60 ≤ a → a < 128 → ¬ R a) (hA : ClsA w c m N mv an) : ClsA w' c m N mv an := by
  obtain ⟨c1, c2, c3, c4⟩ := hA
  refine ⟨c1, (Fr_fi h (by omega) (hF _ _ (by omega) (by omega))).trans c2, ?_, ?_⟩
  · rw [Fr_ai h (by omega) (hR _ (by omega) (by omega))]; exact c3
  · rw [Fr_ai h (by omega) (hR _ (by omega) (by omega))]; exact c4
section SC
variable {d : Nat} {w : MWd} {Q : MRes → MWd → Prop}
theorem s_1l {c n nr : Nat} {B NM : Nat → Nat} {MU AN : Nat → Nat → Option Nat} (G : Gr w) (hc : c = 60 ∨ c = 94) (hn : n ≤ 1000) (h1 : wFI w 449 2 = Int32.ofNat n) (hnr1 : wFI w 385 4 = Int32.ofNat nr)
    (hB : ∀ i, i < n → B i < 256 ∧ wAI w 3 i = Int32.ofNat (B i)) (hA : ∀ m, m < 4 → ClsA w c m (NM m) (MU m) (AN m)) (hok : scOk w nr n B NM MU AN) {Z : scS}
    (K : ∀ W, Fr scZ scY 0 0 w W → scI W n Z → Q (.inl none) W) : ∀ (f q : Nat) (z : scS) (W : MWd) (l6 : Option MV), n - z.2.1 ≤ f → q ≤ z.2.1 → Fr scZ scY 0 0 w W → scI W n z → scRun w n B NM MU AN f z = Z →
      mR (d + 5) W 1 31 [some (vR (some (0, 0, 57))), some (vR (some (7, 0, 2))), some (vR (some (2, 0, c))), some (vR (some (6, 0, 4))), some (vI (Int32.ofNat 1)), some (vI (Int32.ofNat q)), l6] [] Q := by
  intro f
  induction f with
  | zero =>
    intro q z W l6 hf hq hF hI hZ
    have hz : scRun w n B NM MU AN 0 z = z := rfl
    rw [hz] at hZ
    subst hZ
    have hI2 := hI
    obtain ⟨i1, i2, i3, i4, i5, e2, e3, e4, e5, e6, e7⟩ := hI
    have a449 : wFI W 449 2 = Int32.ofNat n := (Fr_fi hF (by decide) (by omega)).trans h1
    rw [e_1_31]
    simp (disch := omega) only [e_1_33, e_1_36, e_1_38, e_1_41, e_1_44, e_1_45, e_1_48, e_1_49, e_1_52, e_1_105, i_lit, i_add, i_mul, i_m1, i_lt, i_le, i_eq, i_cl, i_in, i_ltN, i_Nlt, i_leN, i_Nle, i_eN, i_Ne, i_inN, i_l1, i_l2, mj_cpok, mj_nn, reduceCtorEq, lg_self, Nat.not_lt_zero, Nat.zero_le, Nat.reduceEqDiff, Nat.reduceLT, Nat.reduceLeDiff, true_or, or_true, false_or, or_false, not_true_eq_false, not_false_eq_true, true_imp_iff, false_imp_iff, and_self, wrd, u2, and_true, true_and, and_false, false_and, and_self, ite_true, ite_false, reduceIte, a449, e4]
    (repeat' (first | (with_reducible refine And.intro ?_ ?_) | (with_reducible intro _)))
    all_goals first | omega | exact K W hF hI2
  | succ f ih =>
    intro q z W l6 hf hq hF hI hZ
    have hI2 := hI
    obtain ⟨md, p, cnt, bad, out, F⟩ := z
    obtain ⟨i1, i2, i3, i4, i5, e2, e3, e4, e5, e6, e7⟩ := hI
    dsimp only at i1 i2 i3 i4 i5 e2 e3 e4 e5 e6 e7 hf hq
    have G' := Fr_Gr hF G
    have a449 : wFI W 449 2 = Int32.ofNat n := (Fr_fi hF (by decide) (by omega)).trans h1
    have a385 : wFI W 385 4 = Int32.ofNat nr := (Fr_fi hF (by decide) (by omega)).trans hnr1
    have hgs := g_set G' hc
    have eR : scRun w n B NM MU AN (f + 1) (md, p, cnt, bad, out, F) = if p < n then (match scStep w n B NM MU AN (md, p, cnt, bad, out, F) with
      | (false, z') => z'
      | (true, z') => scRun w n B NM MU AN f z') else (md, p, cnt, bad, out, F) := rfl
    rw [eR] at hZ
    obtain ⟨o1, o2, o3, o4⟩ := hok
    rw [e_1_31]
    by_cases hp : p < n
    · rw [if_pos hp] at hZ
      simp (disch := omega) only [e_1_33, e_1_36, e_1_38, e_1_41, e_1_44, e_1_45, e_1_48, e_1_49, e_1_52, e_1_55, e_1_56, e_1_57, e_1_58, e_1_59, e_1_62, e_24_0, e_24_1, e_24_4, e_24_7, e_24_8, e_24_11, e_24_12, e_24_13, e_24_16, e_24_17, e_104_0, e_104_1, e_104_4, e_104_5, e_104_6, e_104_9, e_104_10, e_104_13, e_104_14, i_lit, i_add, i_mul, i_m1, i_lt, i_le, i_eq, i_cl, i_in, i_ltN, i_Nlt, i_leN, i_Nle, i_eN, i_Ne, i_inN, i_l1, i_l2, mj_cpok, mj_nn, reduceCtorEq, lg_self, Nat.not_lt_zero, Nat.zero_le, Nat.reduceEqDiff, Nat.reduceLT, Nat.reduceLeDiff, true_or, or_true, false_or, or_false, not_true_eq_false, not_false_eq_true, true_imp_iff, false_imp_iff, and_self, wrd, u2, and_true, true_and, and_false, false_and, and_self, ite_true, ite_false, reduceIte, mK_v, a449, e4, e3, hgs.1, gs_row hgs i1]
      (repeat' (first | (with_reducible refine And.intro ?_ ?_) | (with_reducible intro _)))
      all_goals try omega
      obtain ⟨p1, p2⟩ := o3 md i1
      have hAW := ClsA_Fr hF hc i1 (by omega) (by omega) (hA md i1)
      have hBW : ∀ i, i < n → B i < 256 ∧ wAI W 3 i = Int32.ofNat (B i) := by rw [Fr_ai hF (by decide) (by omega)]; exact hB
      rw [e_1_65]
      refine s_5 (d := d + 2) G' hc i1 hAW p1 (fun s q hs hq => by have := p2 s q hs hq; omega) hn a449 hBW i2 e4 (fun W1 hF1 g7 g8 => ?_)
      have hF2 : Fr scZ scY 0 0 w W1 := Fr_trans hF (Fr_weak hF1 (fun k a h => by omega) (fun a h => h.elim) (Nat.le_refl 0) (Nat.le_refl 0))
      have G1 := Fr_Gr hF2 G
      have b2 := (Fr_fi (k := 2) (a := 57) hF1 (by decide) (by omega)).trans e2
      have b3 := (Fr_fi (k := 3) (a := 57) hF1 (by decide) (by omega)).trans e3
      have b4 := (Fr_fi (k := 4) (a := 57) hF1 (by decide) (by omega)).trans e4
      have b5 := (Fr_fi (k := 5) (a := 57) hF1 (by decide) (by omega)).trans e5
      have b6 := (Fr_fi (k := 6) (a := 57) hF1 (by decide) (by omega)).trans e6
      have b58 : wAI W1 58 = wAI W 58 := Fr_ai hF1 (by decide) (fun h => h)
      have b449 : wFI W1 449 2 = Int32.ofNat n := (Fr_fi hF2 (by decide) (by omega)).trans h1
      have b385 : wFI W1 385 4 = Int32.ofNat nr := (Fr_fi hF2 (by decide) (by omega)).trans hnr1
      have stop : ∀ (W2 : MWd) (l6 : Option MV), Fr scZ scY 0 0 w W2 → scI W2 n Z → mR (d + 5) W2 1 31 [some (vR (some (0, 0, 57))), some (vR (some (7, 0, 2))), some (vR (some (2, 0, c))), some (vR (some (6, 0, 4))), some (vI (Int32.ofNat 0)), some (vI (Int32.ofNat (q + 1))), l6] [] Q := by
        intro W2 l6 k1 k2
        have k0 := K W2 k1 k2
        rw [e_1_31]
        simp (disch := omega) only [e_1_33, e_1_105, i_lit, i_add, i_mul, i_m1, i_lt, i_le, i_eq, i_cl, i_in, i_ltN, i_Nlt, i_leN, i_Nle, i_eN, i_Ne, i_inN, i_l1, i_l2, mj_cpok, mj_nn, reduceCtorEq, lg_self, Nat.not_lt_zero, Nat.zero_le, Nat.reduceEqDiff, Nat.reduceLT, Nat.reduceLeDiff, true_or, or_true, false_or, or_false, not_true_eq_false, not_false_eq_true, true_imp_iff, false_imp_iff, and_self, wrd, u2, and_true, true_and, and_false, false_and, and_self, ite_true, ite_false, reduceIte]
        (repeat' (first | (with_reducible refine And.intro ?_ ?_) | (with_reducible intro _)))
        all_goals first | omega | exact k0
      cases hpc : pcs (NM md) (MU md) (AN md) B p (n - p) with
      | mk x Lp =>
      rw [hpc] at g7 g8
      cases x with
      | none =>
        have g8' : wFI W1 8 57 = NN := g8
        have eS : scStep w n B NM MU AN (md, p, cnt, bad, out, F) = if cnt = 500 then (false, (md, p, cnt, bad, out, F)) else (true, (md, p + 1, cnt + 1, bad + 1, out, putT F cnt NN (Int32.ofNat p) (Int32.ofNat 1) (Int32.ofNat md))) := by
          unfold scStep; dsimp only; rw [hpc]
        rw [eS] at hZ
        simp (disch := omega) only [mK_n, e_1_68, e_1_69, e_1_70, e_1_73, e_73_0, e_73_1, e_73_4, e_73_5, e_73_6, e_73_9, e_73_12, e_73_13, e_73_15, e_73_18, e_73_19, e_73_22, e_73_23, e_73_24, e_73_27, e_73_28, mK_v, e_1_76, e_1_78, e_1_80, e_1_83, e_1_84, i_lit, i_add, i_mul, i_m1, i_lt, i_le, i_eq, i_cl, i_in, i_ltN, i_Nlt, i_leN, i_Nle, i_eN, i_Ne, i_inN, i_l1, i_l2, mj_cpok, mj_nn, reduceCtorEq, lg_self, Nat.not_lt_zero, Nat.zero_le, Nat.reduceEqDiff, Nat.reduceLT, Nat.reduceLeDiff, true_or, or_true, false_or, or_false, not_true_eq_false, not_false_eq_true, true_imp_iff, false_imp_iff, and_self, wrd, u2, and_true, true_and, and_false, false_and, and_self, ite_true, ite_false, reduceIte, g8', b385, g_384 G1]
        (repeat' (first | (with_reducible refine And.intro ?_ ?_) | (with_reducible intro _)))
        all_goals try omega
        refine s_6 (d := d + 3) G1 i3 (by omega) (by omega) b2 b4 b3 b5 (fun W2 hcc hF3 j2 j4 j5 j58 => ?_) (fun h500 => ?_)
        · have hF4 : Fr scZ scY 0 0 w W2 := Fr_trans hF2 (Fr_weak hF3 (fun k a h => by omega) (fun a h => Or.inl h) (Nat.le_refl 0) (Nat.le_refl 0))
          rw [if_neg (by omega)] at hZ
          dsimp only at hZ
          have nn := ih (q + 1) (md, p + 1, cnt + 1, bad + 1, out, putT F cnt NN (Int32.ofNat p) (Int32.ofNat 1) (Int32.ofNat md)) W2 (some (vR none)) (by dsimp only; omega) (by dsimp only; omega) hF4 (by
            refine ⟨i1, by dsimp only; omega, by dsimp only; omega, by dsimp only; omega, by dsimp only; omega, j2, (Fr_fi hF3 (by decide) (by omega)).trans b3, j4, j5, (Fr_fi hF3 (by decide) (by omega)).trans b6, j58 F (by rw [b58]; exact e7)⟩) hZ
          simp (disch := omega) only [mK_v, e_1_87, e_1_97, e_1_99, e_1_102, i_lit, i_add, i_mul, i_m1, i_lt, i_le, i_eq, i_cl, i_in, i_ltN, i_Nlt, i_leN, i_Nle, i_eN, i_Ne, i_inN, i_l1, i_l2, mj_cpok, mj_nn, reduceCtorEq, lg_self, Nat.not_lt_zero, Nat.zero_le, Nat.reduceEqDiff, Nat.reduceLT, Nat.reduceLeDiff, true_or, or_true, false_or, or_false, not_true_eq_false, not_false_eq_true, true_imp_iff, false_imp_iff, and_self, wrd, u2, and_true, true_and, and_false, false_and, and_self, ite_true, ite_false, reduceIte]
          (repeat' (first | (with_reducible refine And.intro ?_ ?_) | (with_reducible intro _)))
          all_goals first | omega | exact nn
        · rw [if_pos h500] at hZ
          dsimp only at hZ
          have nn := stop W1 (some (vR none)) hF2 (by rw [← hZ]; exact ⟨i1, i2, i3, i4, i5, b2, b3, b4, b5, b6, by rw [b58]; exact e7⟩)
          simp (disch := omega) only [mK_v, e_1_87, e_1_97, e_1_99, e_1_102, i_lit, i_add, i_mul, i_m1, i_lt, i_le, i_eq, i_cl, i_in, i_ltN, i_Nlt, i_leN, i_Nle, i_eN, i_Ne, i_inN, i_l1, i_l2, mj_cpok, mj_nn, reduceCtorEq, lg_self, Nat.not_lt_zero, Nat.zero_le, Nat.reduceEqDiff, Nat.reduceLT, Nat.reduceLeDiff, true_or, or_true, false_or, or_false, not_true_eq_false, not_false_eq_true, true_imp_iff, false_imp_iff, and_self, wrd, u2, and_true, true_and, and_false, false_and, and_self, ite_true, ite_false, reduceIte]
          (repeat' (first | (with_reducible refine And.intro ?_ ?_) | (with_reducible intro _)))
          all_goals first | omega | exact nn
      | some r =>
        obtain ⟨l1, l2, s, q1, q2⟩ := pcs_some hpc
        have hrn : r < nr := p2 s r (pq_lt p1 q1) q2
        obtain ⟨u, hu⟩ := pcs_let hpc
        have hu9 : ∀ i, i < Lp → B (p + i) = 97 + u i := fun i hi => (ltO_lt (hu i hi)).2
        have hok := o2 r hrn
        have hct : ctT W1 r B p Lp = ctT w r B p Lp := ctT_Fr hF2 (by omega) (by omega) (by omega) hok ⟨u, hu9⟩ (fun h0 np tp u' hA' hu' => o4 md p r Lp i1 i2 hpc h0 np tp u' hA' hu')
        have hok1 : RuleOk W1 r := RuleOk_Fr hF2 (by omega) hok (by omega) (by omega)
        obtain ⟨np, tp, hA1, hB1, hC1⟩ := hok1
        have hcf := cut_Fr (np := np) (tp := tp) (L := Lp) (u := u) hF2 (r := r) (by omega) (by omega) (by omega)
        have hA0 := hcf.1.mp hA1
        obtain ⟨m, hm, -, q131⟩ := hA0.2.2.2.1
        have ecl : (wAI w 131 r).toNatClampNeg = m := by rw [q131]; exact i_cl (by omega)
        have r131 : wAI W1 131 = wAI w 131 := Fr_ai hF2 (by decide) (by decide)
        have r132 : wAI W1 132 = wAI w 132 := Fr_ai hF2 (by decide) (by decide)
        have r133 : wAI W1 133 = wAI w 133 := Fr_ai hF2 (by decide) (by decide)
        have hex0 : wAI w 133 r = Int32.ofNat 1 → ∃ k, 1 ≤ k ∧ k ≤ Lp ∧ cutRw w r np Lp u k := fun h0 => o4 md p r Lp i1 i2 hpc h0 np tp u hA0 hu9
        have hex1 : wAI W1 133 r = Int32.ofNat 1 → ∃ k, 1 ≤ k ∧ k ≤ Lp ∧ cutRw W1 r np Lp u k := fun h0 => by
          rw [r133] at h0
          obtain ⟨k, k1, k2, k3⟩ := hex0 h0
          exact ⟨k, k1, k2, (hcf.2 k).mpr k3⟩
        obtain ⟨t1, t2⟩ := ctT_le hA0 hu9 l1 hex0
        have hBW1 : ∀ i, i < n → B i < 256 ∧ wAI W1 3 i = Int32.ofNat (B i) := by rw [Fr_ai hF2 (by decide) (by omega)]; exact hB
        have g8' : wFI W1 8 57 = Int32.ofNat r := g8
        have eS : scStep w n B NM MU AN (md, p, cnt, bad, out, F) = if wAI w 132 r = Int32.ofNat 1 then (true, (m, p + ctT w r B p Lp, cnt, bad, out + 1, F))
            else if cnt = 500 then (false, (md, p, cnt, bad, out, F)) else (true, (m, p + ctT w r B p Lp, cnt + 1, bad, out, putT F cnt (Int32.ofNat r) (Int32.ofNat p) (Int32.ofNat (ctT w r B p Lp)) (Int32.ofNat md))) := by
          unfold scStep; dsimp only; rw [hpc]; dsimp only; rw [ecl]
        rw [eS] at hZ
        simp (disch := omega) only [mK_n, e_1_68, e_1_69, e_1_70, e_1_73, e_73_0, e_73_1, e_73_4, e_73_5, e_73_6, e_73_9, e_73_12, e_73_13, e_73_15, e_73_18, e_73_19, e_73_22, e_73_23, e_73_24, e_73_27, e_73_28, mK_v, e_1_76, e_1_78, e_1_80, e_1_90, e_1_91, e_1_92, e_1_94, i_lit, i_add, i_mul, i_m1, i_lt, i_le, i_eq, i_cl, i_in, i_ltN, i_Nlt, i_leN, i_Nle, i_eN, i_Ne, i_inN, i_l1, i_l2, mj_cpok, mj_nn, reduceCtorEq, lg_self, Nat.not_lt_zero, Nat.zero_le, Nat.reduceEqDiff, Nat.reduceLT, Nat.reduceLeDiff, true_or, or_true, false_or, or_false, not_true_eq_false, not_false_eq_true, true_imp_iff, false_imp_iff, and_self, wrd, u2, and_true, true_and, and_false, false_and, and_self, ite_true, ite_false, reduceIte, g8', b385, g_384 G1, g_row G1 (show r < 12 by omega)]
        (repeat' (first | (with_reducible refine And.intro ?_ ?_) | (with_reducible intro _)))
        all_goals try omega
        refine s_7 (d := d) G1 (by omega) hA1 hB1 hC1 hn b449 hBW1 l1 (by omega) i3 (by omega) b2 b3 b4 b6 g7 g8' hu hex1 (fun W2 j1 hF3 j2 j3 j4 j6 j58 => ?_) (fun W2 j1 hcc hF3 j2 j3 j4 j6 j58 => ?_) (fun W2 j1 h500 hF3 j2 j3 j4 j6 j58 => ?_)
        · have hF4 : Fr scZ scY 0 0 w W2 := Fr_trans hF2 (Fr_weak hF3 (fun k a h => by omega) (fun a h => h) (Nat.le_refl 0) (Nat.le_refl 0))
          rw [r132] at j1
          rw [if_pos j1] at hZ
          dsimp only at hZ
          rw [hct] at j4
          have nn := ih (q + 1) (m, p + ctT w r B p Lp, cnt, bad, out + 1, F) W2 (some (vR (some (5, 0, 6 + 3 * r)))) (by dsimp only; omega) (by dsimp only; omega) hF4 (by
            refine ⟨hm, by dsimp only; omega, i3, by dsimp only; omega, by dsimp only; omega, j2, j3.trans (by rw [r131, q131]), j4, (Fr_fi hF3 (by decide) (by omega)).trans b5, j6, by rw [j58, b58]; exact e7⟩) hZ
          simp (disch := omega) only [mK_v, e_1_97, e_1_99, e_1_102, i_lit, i_add, i_mul, i_m1, i_lt, i_le, i_eq, i_cl, i_in, i_ltN, i_Nlt, i_leN, i_Nle, i_eN, i_Ne, i_inN, i_l1, i_l2, mj_cpok, mj_nn, reduceCtorEq, lg_self, Nat.not_lt_zero, Nat.zero_le, Nat.reduceEqDiff, Nat.reduceLT, Nat.reduceLeDiff, true_or, or_true, false_or, or_false, not_true_eq_false, not_false_eq_true, true_imp_iff, false_imp_iff, and_self, wrd, u2, and_true, true_and, and_false, false_and, and_self, ite_true, ite_false, reduceIte]
          (repeat' (first | (with_reducible refine And.intro ?_ ?_) | (with_reducible intro _)))
          all_goals first | omega | exact nn
        · have hF4 : Fr scZ scY 0 0 w W2 := Fr_trans hF2 (Fr_weak hF3 (fun k a h => by omega) (fun a h => h) (Nat.le_refl 0) (Nat.le_refl 0))
          rw [r132] at j1
          rw [if_neg (by rw [j1]; decide), if_neg (by omega)] at hZ
          dsimp only at hZ
          rw [hct] at j4 j58
          have nn := ih (q + 1) (m, p + ctT w r B p Lp, cnt + 1, bad, out, putT F cnt (Int32.ofNat r) (Int32.ofNat p) (Int32.ofNat (ctT w r B p Lp)) (Int32.ofNat md)) W2 (some (vR (some (5, 0, 6 + 3 * r)))) (by dsimp only; omega) (by dsimp only; omega) hF4 (by
            refine ⟨hm, by dsimp only; omega, by dsimp only; omega, by dsimp only; omega, by dsimp only; omega, j2, j3.trans (by rw [r131, q131]), j4, (Fr_fi hF3 (by decide) (by omega)).trans b5, j6, j58 F (by rw [b58]; exact e7)⟩) hZ
          simp (disch := omega) only [mK_v, e_1_97, e_1_99, e_1_102, i_lit, i_add, i_mul, i_m1, i_lt, i_le, i_eq, i_cl, i_in, i_ltN, i_Nlt, i_leN, i_Nle, i_eN, i_Ne, i_inN, i_l1, i_l2, mj_cpok, mj_nn, reduceCtorEq, lg_self, Nat.not_lt_zero, Nat.zero_le, Nat.reduceEqDiff, Nat.reduceLT, Nat.reduceLeDiff, true_or, or_true, false_or, or_false, not_true_eq_false, not_false_eq_true, true_imp_iff, false_imp_iff, and_self, wrd, u2, and_true, true_and, and_false, false_and, and_self, ite_true, ite_false, reduceIte]
          (repeat' (first | (with_reducible refine And.intro ?_ ?_) | (with_reducible intro _)))
          all_goals first | omega | exact nn
        · have hF4 : Fr scZ scY 0 0 w W2 := Fr_trans hF2 (Fr_weak hF3 (fun k a h => by omega) (fun a h => h) (Nat.le_refl 0) (Nat.le_refl 0))
          rw [r132] at j1
          rw [if_neg (by rw [j1]; decide), if_pos h500] at hZ
          dsimp only at hZ
          have nn := stop W2 (some (vR (some (5, 0, 6 + 3 * r)))) hF4 (by rw [← hZ]; exact ⟨i1, i2, i3, i4, i5, j2, j3, j4, (Fr_fi hF3 (by decide) (by omega)).trans b5, j6, by rw [j58, b58]; exact e7⟩)
          simp (disch := omega) only [mK_v, e_1_97, e_1_99, e_1_102, i_lit, i_add, i_mul, i_m1, i_lt, i_le, i_eq, i_cl, i_in, i_ltN, i_Nlt, i_leN, i_Nle, i_eN, i_Ne, i_inN, i_l1, i_l2, mj_cpok, mj_nn, reduceCtorEq, lg_self, Nat.not_lt_zero, Nat.zero_le, Nat.reduceEqDiff, Nat.reduceLT, Nat.reduceLeDiff, true_or, or_true, false_or, or_false, not_true_eq_false, not_false_eq_true, true_imp_iff, false_imp_iff, and_self, wrd, u2, and_true, true_and, and_false, false_and, and_self, ite_true, ite_false, reduceIte]
          (repeat' (first | (with_reducible refine And.intro ?_ ?_) | (with_reducible intro _)))
          all_goals first | omega | exact nn
    · rw [if_neg hp] at hZ
      subst hZ
      simp (disch := omega) only [e_1_33, e_1_36, e_1_38, e_1_41, e_1_44, e_1_45, e_1_48, e_1_49, e_1_52, e_1_105, i_lit, i_add, i_mul, i_m1, i_lt, i_le, i_eq, i_cl, i_in, i_ltN, i_Nlt, i_leN, i_Nle, i_eN, i_Ne, i_inN, i_l1, i_l2, mj_cpok, mj_nn, reduceCtorEq, lg_self, Nat.not_lt_zero, Nat.zero_le, Nat.reduceEqDiff, Nat.reduceLT, Nat.reduceLeDiff, true_or, or_true, false_or, or_false, not_true_eq_false, not_false_eq_true, true_imp_iff, false_imp_iff, and_self, wrd, u2, and_true, true_and, and_false, false_and, and_self, ite_true, ite_false, reduceIte, a449, e4]
      (repeat' (first | (with_reducible refine And.intro ?_ ?_) | (with_reducible intro _)))
      all_goals first | omega | exact K W hF hI2
end SC
