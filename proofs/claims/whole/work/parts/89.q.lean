/-! scan: the reference's loop. -/
abbrev scZr : Nat → Nat → Prop := fun k a => k = 678 ∧ a = 128
abbrev scYr : Nat → Prop := fun a => a = 163 ∨ a = 165
def scJ (W : MWd) (n : Nat) (z : scS) : Prop := z.1 < 4 ∧ z.2.1 ≤ n ∧ z.2.2.1 ≤ 500 ∧ z.2.2.2.1 ≤ z.2.1 ∧ z.2.2.2.2.1 ≤ z.2.1 ∧ wFI W 678 128 = Int32.ofNat z.2.2.1 ∧ ∀ i, i < 4 * z.2.2.1 → wAI W 163 i = z.2.2.2.2.2 i
theorem RefA_Fr {F : Nat → Nat → Prop} {R : Nat → Prop} {x y m N : Nat} {mv an : Nat → Option Nat} {w w' : MWd} (h : Fr F R x y w w') (hm : m < 4) (hR : ∀ a, 143 ≤ a → a < 150 → ¬ R a) (hA : RefA w m N mv an) : RefA w' m N mv an := by
  obtain ⟨c1, c2, c3, c4⟩ := hA
  refine ⟨c1, by rw [Fr_ai h (by omega) (hR _ (by omega) (by omega))]; exact c2, ?_, ?_⟩
  · rw [Fr_ai h (by omega) (hR _ (by omega) (by omega))]; exact c3
  · rw [Fr_ai h (by omega) (hR _ (by omega) (by omega))]; exact c4
section SC
variable {d : Nat} {w : MWd} {Q : MRes → MWd → Prop}
theorem s_161l {n nr : Nat} {B NM : Nat → Nat} {MU AN : Nat → Nat → Option Nat} (G : Gr w) (hn : n ≤ 1000) (h1 : wFI w 642 128 = Int32.ofNat n)
    (hB : ∀ i, i < n → B i < 256 ∧ wAI w 129 i = Int32.ofNat (B i)) (hA : ∀ m, m < 4 → RefA w m (NM m) (MU m) (AN m)) (hok : scOk w nr n B NM MU AN) {Z : scS}
    (K : ∀ (W : MWd) (x5 : Int32) (l6 l7 l8 l9 : Option MV), Fr scZr scYr Z.2.2.1 (4 * Z.2.2.1) w W → scJ W n Z → mR (d + 4) W 161 283 [some (vR (some (10, 0, 128))), some (vI (Int32.ofNat Z.1)), some (vI (Int32.ofNat Z.2.1)), some (vI (Int32.ofNat Z.2.2.2.1)), some (vI (Int32.ofNat Z.2.2.2.2.1)), some (vI x5), l6, l7, l8, l9] [] Q) :
    ∀ (f : Nat) (z : scS) (W : MWd) (l6 l7 l8 l9 : Option MV), n - z.2.1 ≤ f → Fr scZr scYr z.2.2.1 (4 * z.2.2.1) w W → scJ W n z → scRun w n B NM MU AN f z = Z →
      mR (d + 4) W 161 35 [some (vR (some (10, 0, 128))), some (vI (Int32.ofNat z.1)), some (vI (Int32.ofNat z.2.1)), some (vI (Int32.ofNat z.2.2.2.1)), some (vI (Int32.ofNat z.2.2.2.2.1)), some (vI (Int32.ofNat 1)), l6, l7, l8, l9] [] Q := by
  intro f
  induction f with
  | zero =>
    intro z W l6 l7 l8 l9 hf hF hI hZ
    have hz : scRun w n B NM MU AN 0 z = z := rfl
    rw [hz] at hZ
    subst hZ
    have k0 := K W (Int32.ofNat 1) l6 l7 l8 l9 hF hI
    obtain ⟨i1, i2, i3, i4, i5, e2, e7⟩ := hI
    have a642 : wFI W 642 128 = Int32.ofNat n := (Fr_fi hF (by decide) (by omega)).trans h1
    rw [e_161_35]
    simp (disch := omega) only [e_161_37, e_161_40, e_161_41, e_161_42, e_161_45, i_lit, i_add, i_mul, i_m1, i_lt, i_le, i_eq, i_cl, i_in, i_ltN, i_Nlt, i_leN, i_Nle, i_eN, i_Ne, i_inN, i_l1, i_l2, mj_cpok, mj_nn, reduceCtorEq, lg_self, Nat.not_lt_zero, Nat.zero_le, Nat.reduceEqDiff, Nat.reduceLT, Nat.reduceLeDiff, true_or, or_true, false_or, or_false, not_true_eq_false, not_false_eq_true, true_imp_iff, false_imp_iff, and_self, wrd, u2, and_true, true_and, and_false, false_and, and_self, ite_true, ite_false, reduceIte, a642]
    (repeat' (first | (with_reducible refine And.intro ?_ ?_) | (with_reducible intro _)))
    all_goals first | omega | exact k0
  | succ f ih =>
    intro z W l6 l7 l8 l9 hf hF hI hZ
    have hI2 := hI
    obtain ⟨md, p, cnt, bad, out, F⟩ := z
    obtain ⟨i1, i2, i3, i4, i5, e2, e7⟩ := hI
    dsimp only at i1 i2 i3 i4 i5 e2 e7 hf hF
    have G' := Fr_Gr hF G
    have a642 : wFI W 642 128 = Int32.ofNat n := (Fr_fi hF (by decide) (by omega)).trans h1
    have eR : scRun w n B NM MU AN (f + 1) (md, p, cnt, bad, out, F) = if p < n then (match scStep w n B NM MU AN (md, p, cnt, bad, out, F) with
      | (false, z') => z'
      | (true, z') => scRun w n B NM MU AN f z') else (md, p, cnt, bad, out, F) := rfl
    rw [eR] at hZ
    obtain ⟨o1, o2, o3, o4⟩ := hok
    dsimp only
    rw [e_161_35]
    by_cases hp : p < n
    · rw [if_pos hp] at hZ
      obtain ⟨p1, p2⟩ := o3 md i1
      have hAW := RefA_Fr hF i1 (by omega) (hA md i1)
      have hBW : ∀ i, i < n → B i < 256 ∧ wAI W 129 i = Int32.ofNat (B i) := by rw [Fr_ai hF (by decide) (by omega)]; exact hB
      have hN := hAW.1
      have eN : wAI W 143 md = Int32.ofNat (NM md) := hAW.2.1
      have stop : ∀ (W2 : MWd) (l6 l7 l8 l9 : Option MV), Fr scZr scYr Z.2.2.1 (4 * Z.2.2.1) w W2 → scJ W2 n Z → mR (d + 4) W2 161 35 [some (vR (some (10, 0, 128))), some (vI (Int32.ofNat Z.1)), some (vI (Int32.ofNat Z.2.1)), some (vI (Int32.ofNat Z.2.2.2.1)), some (vI (Int32.ofNat Z.2.2.2.2.1)), some (vI (Int32.ofNat 0)), l6, l7, l8, l9] [] Q := by
        intro W2 l6 l7 l8 l9 k1 k2
        have k0 := K W2 (Int32.ofNat 0) l6 l7 l8 l9 k1 k2
        rw [e_161_35]
        simp (disch := omega) only [e_161_37, i_lit, i_add, i_mul, i_m1, i_lt, i_le, i_eq, i_cl, i_in, i_ltN, i_Nlt, i_leN, i_Nle, i_eN, i_Ne, i_inN, i_l1, i_l2, mj_cpok, mj_nn, reduceCtorEq, lg_self, Nat.not_lt_zero, Nat.zero_le, Nat.reduceEqDiff, Nat.reduceLT, Nat.reduceLeDiff, true_or, or_true, false_or, or_false, not_true_eq_false, not_false_eq_true, true_imp_iff, false_imp_iff, and_self, wrd, u2, and_true, true_and, and_false, false_and, and_self, ite_true, ite_false, reduceIte]
        (repeat' (first | (with_reducible refine And.intro ?_ ?_) | (with_reducible intro _)))
        all_goals first | omega | exact k0
      have body : ∀ x8 x9 : Int32, mR (d + 4) W 161 175 [some (vR (some (10, 0, 128))), some (vI (Int32.ofNat md)), some (vI (Int32.ofNat p)), some (vI (Int32.ofNat bad)), some (vI (Int32.ofNat out)), some (vI (Int32.ofNat 1)), some (vI (en (pcs (NM md) (MU md) (AN md) B p (n - p)).1)), some (vI (Int32.ofNat (p + (pcs (NM md) (MU md) (AN md) B p (n - p)).2))), some (vI x8), some (vI x9)] [] Q := by
        intro x8 x9
        cases hpc : pcs (NM md) (MU md) (AN md) B p (n - p) with
        | mk x Lp =>
        cases x with
        | none =>
          have eS : scStep w n B NM MU AN (md, p, cnt, bad, out, F) = if cnt = 500 then (false, (md, p, cnt, bad, out, F)) else (true, (md, p + 1, cnt + 1, bad + 1, out, putT F cnt NN (Int32.ofNat p) (Int32.ofNat 1) (Int32.ofNat md))) := by
            unfold scStep; dsimp only; rw [hpc]
          rw [eS] at hZ
          dsimp only [en]
          simp (disch := omega) only [e_161_175, e_161_177, e_161_178, e_161_181, e_161_182, e_161_183, e_161_184, e_161_185, e_161_186, i_lit, i_add, i_mul, i_m1, i_lt, i_le, i_eq, i_cl, i_in, i_ltN, i_Nlt, i_leN, i_Nle, i_eN, i_Ne, i_inN, i_l1, i_l2, mj_cpok, mj_nn, reduceCtorEq, lg_self, Nat.not_lt_zero, Nat.zero_le, Nat.reduceEqDiff, Nat.reduceLT, Nat.reduceLeDiff, true_or, or_true, false_or, or_false, not_true_eq_false, not_false_eq_true, true_imp_iff, false_imp_iff, and_self, wrd, u2, and_true, true_and, and_false, false_and, and_self, ite_true, ite_false, reduceIte]
          (repeat' (first | (with_reducible refine And.intro ?_ ?_) | (with_reducible intro _)))
          all_goals try omega
          refine s_156 G' i3 e2 (fun W2 hcc hF3 j2 j58 => ?_) (fun h500 => ?_)
          · have hF4 : Fr scZr scYr (cnt + 1) (4 * (cnt + 1)) w W2 := Fr_weak (Fr_trans hF (Fr_weak hF3 (fun k a h => h) (fun a h => Or.inl h) (Nat.le_refl _) (Nat.le_refl _))) (fun k a h => h) (fun a h => h) (by omega) (by omega)
            rw [if_neg (by omega)] at hZ
            dsimp only at hZ
            have nn := ih (md, p + 1, cnt + 1, bad + 1, out, putT F cnt NN (Int32.ofNat p) (Int32.ofNat 1) (Int32.ofNat md)) W2 (some (vI NN)) (some (vI (Int32.ofNat (p + Lp)))) (some (vI x8)) (some (vI x9)) (by dsimp only; omega) hF4 (by
              refine ⟨i1, by dsimp only; omega, by dsimp only; omega, by dsimp only; omega, by dsimp only; omega, j2, j58 F e7⟩) hZ
            simp (disch := omega) only [mK_v, e_161_189, e_161_191, e_161_192, e_161_194, e_161_197, e_161_198, e_161_202, e_161_203, e_161_204, e_161_205, e_161_207, e_161_210, e_161_211, e_161_215, e_161_216, e_161_217, i_lit, i_add, i_mul, i_m1, i_lt, i_le, i_eq, i_cl, i_in, i_ltN, i_Nlt, i_leN, i_Nle, i_eN, i_Ne, i_inN, i_l1, i_l2, mj_cpok, mj_nn, reduceCtorEq, lg_self, Nat.not_lt_zero, Nat.zero_le, Nat.reduceEqDiff, Nat.reduceLT, Nat.reduceLeDiff, true_or, or_true, false_or, or_false, not_true_eq_false, not_false_eq_true, true_imp_iff, false_imp_iff, and_self, wrd, u2, and_true, true_and, and_false, false_and, and_self, ite_true, ite_false, reduceIte]
            (repeat' (first | (with_reducible refine And.intro ?_ ?_) | (with_reducible intro _)))
            all_goals first | omega | exact nn
          · rw [if_pos h500] at hZ
            dsimp only at hZ
            have nn := stop W (some (vI NN)) (some (vI (Int32.ofNat (p + Lp)))) (some (vI x8)) (some (vI x9)) (by rw [← hZ]; exact hF) (by rw [← hZ]; exact hI2)
            rw [← hZ] at nn
            simp (disch := omega) only [mK_v, e_161_189, e_161_191, e_161_192, e_161_194, e_161_201, e_161_202, e_161_203, e_161_204, e_161_205, e_161_207, e_161_214, e_161_215, e_161_216, e_161_217, i_lit, i_add, i_mul, i_m1, i_lt, i_le, i_eq, i_cl, i_in, i_ltN, i_Nlt, i_leN, i_Nle, i_eN, i_Ne, i_inN, i_l1, i_l2, mj_cpok, mj_nn, reduceCtorEq, lg_self, Nat.not_lt_zero, Nat.zero_le, Nat.reduceEqDiff, Nat.reduceLT, Nat.reduceLeDiff, true_or, or_true, false_or, or_false, not_true_eq_false, not_false_eq_true, true_imp_iff, false_imp_iff, and_self, wrd, u2, and_true, true_and, and_false, false_and, and_self, ite_true, ite_false, reduceIte, Nat.add_zero]
            (repeat' (first | (with_reducible refine And.intro ?_ ?_) | (with_reducible intro _)))
            all_goals first | omega | exact nn
        | some r =>
          obtain ⟨l1, l2, s, q1, q2⟩ := pcs_some hpc
          have hrn : r < nr := p2 s r (pq_lt p1 q1) q2
          obtain ⟨u, hu⟩ := pcs_let hpc
          have hu9 : ∀ i, i < Lp → B (p + i) = 97 + u i := fun i hi => (ltO_lt (hu i hi)).2
          obtain ⟨np, tp, hA1, hB1, hC1⟩ := RuleOk_Fr hF (by omega) (o2 r hrn) (by omega) (by omega)
          have hcf := cut_Fr (np := np) (tp := tp) (L := Lp) (u := u) hF (r := r) (by omega) (by omega) (by omega)
          have hA0 := hcf.1.mp hA1
          obtain ⟨m, hm, -, q131⟩ := hA0.2.2.2.1
          have ecl : (wAI w 131 r).toNatClampNeg = m := by rw [q131]; exact i_cl (by omega)
          have r131 : wAI W 131 = wAI w 131 := Fr_ai hF (by decide) (by decide)
          have r132 : wAI W 132 = wAI w 132 := Fr_ai hF (by decide) (by decide)
          have r133 : wAI W 133 = wAI w 133 := Fr_ai hF (by decide) (by decide)
          have hex0 : wAI w 133 r = Int32.ofNat 1 → ∃ k, 1 ≤ k ∧ k ≤ Lp ∧ cutRw w r np Lp u k := fun h0 => o4 md p r Lp i1 i2 hpc h0 np tp u hA0 hu9
          obtain ⟨t1, t2⟩ := ctT_le hA0 hu9 l1 hex0
          have eS : scStep w n B NM MU AN (md, p, cnt, bad, out, F) = if wAI w 132 r = Int32.ofNat 1 then (true, (m, p + ctT w r B p Lp, cnt, bad, out + 1, F))
              else if cnt = 500 then (false, (md, p, cnt, bad, out, F)) else (true, (m, p + ctT w r B p Lp, cnt + 1, bad, out, putT F cnt (Int32.ofNat r) (Int32.ofNat p) (Int32.ofNat (ctT w r B p Lp)) (Int32.ofNat md))) := by
            unfold scStep; dsimp only; rw [hpc]; dsimp only; rw [ecl]
          rw [eS] at hZ
          have aft : ∀ W2, Fr (fun _ _ => False) (fun a => a = 165) 0 0 W W2 → mR (d + 4) W2 161 229 [some (vR (some (10, 0, 128))), some (vI (Int32.ofNat md)), some (vI (Int32.ofNat p)), some (vI (Int32.ofNat bad)), some (vI (Int32.ofNat out)), some (vI (Int32.ofNat 1)), some (vI (Int32.ofNat r)), some (vI (Int32.ofNat (p + Lp))), some (vI x8), some (vI x9)] [vI (Int32.ofNat (p + ctT w r B p Lp))] Q := by
            generalize ctT w r B p Lp = T at *
            intro W2 hF2
            have hF3 : Fr scZr scYr cnt (4 * cnt) w W2 := Fr_weak (Fr_trans hF (Fr_weak hF2 (fun k a h => h.elim) (fun a h => Or.inr h) (Nat.le_refl 0) (Nat.le_refl 0))) (fun k a h => h) (fun a h => h) (by omega) (by omega)
            have G2 := Fr_Gr hF3 G
            have b2 := (Fr_fi (k := 678) (a := 128) hF2 (by decide) (fun h => h)).trans e2
            have b163 : wAI W2 163 = wAI W 163 := Fr_ai hF2 (by decide) (by decide)
            have b131 : wAI W2 131 r = Int32.ofNat m := by rw [Fr_ai hF3 (by decide) (by decide)]; exact q131
            have b132 : wAI W2 132 r = wAI w 132 r := by rw [Fr_ai hF3 (by decide) (by decide)]
            have hsub : Int32.ofNat (p + T) - Int32.ofNat p = Int32.ofNat T := by rw [i_sub (by omega)]; congr 1; omega
            rcases hA0.2.2.2.2.1.2 with hz | hz
            · rw [if_neg (by rw [hz]; decide)] at hZ
              rw [hz] at b132
              simp (disch := omega) only [e_161_229, e_161_231, e_161_232, e_161_235, e_161_237, e_161_238, e_161_247, e_161_248, e_161_250, e_161_251, e_161_253, e_161_254, e_161_255, e_161_256, i_lit, i_add, i_mul, i_m1, i_lt, i_le, i_eq, i_cl, i_in, i_ltN, i_Nlt, i_leN, i_Nle, i_eN, i_Ne, i_inN, i_l1, i_l2, mj_cpok, mj_nn, reduceCtorEq, lg_self, Nat.not_lt_zero, Nat.zero_le, Nat.reduceEqDiff, Nat.reduceLT, Nat.reduceLeDiff, true_or, or_true, false_or, or_false, not_true_eq_false, not_false_eq_true, true_imp_iff, false_imp_iff, and_self, wrd, u2, and_true, true_and, and_false, false_and, and_self, ite_true, ite_false, reduceIte, g_647 G2, b132, hsub]
              (repeat' (first | (with_reducible refine And.intro ?_ ?_) | (with_reducible intro _)))
              all_goals try omega
              refine s_156 G2 i3 b2 (fun W3 hcc hF4 j2 j58 => ?_) (fun h500 => ?_)
              · have hF5 : Fr scZr scYr (cnt + 1) (4 * (cnt + 1)) w W3 := Fr_weak (Fr_trans hF3 (Fr_weak hF4 (fun k a h => h) (fun a h => Or.inl h) (Nat.le_refl _) (Nat.le_refl _))) (fun k a h => h) (fun a h => h) (by omega) (by omega)
                have G3 := Fr_Gr hF5 G
                have c131 : wAI W3 131 r = Int32.ofNat m := by rw [Fr_ai hF5 (by decide) (by decide)]; exact q131
                rw [if_neg (by omega)] at hZ
                dsimp only at hZ
                have nn := ih (m, p + T, cnt + 1, bad, out, putT F cnt (Int32.ofNat r) (Int32.ofNat p) (Int32.ofNat T) (Int32.ofNat md)) W3 (some (vI (Int32.ofNat r))) (some (vI (Int32.ofNat (p + T)))) (some (vI x8)) (some (vI x9)) (by dsimp only; omega) hF5 (by
                  refine ⟨hm, by dsimp only; omega, by dsimp only; omega, by dsimp only; omega, by dsimp only; omega, j2, j58 F (by rw [b163]; exact e7)⟩) hZ
                simp (disch := omega) only [mK_v, e_161_259, e_161_261, e_161_263, e_161_269, e_161_271, e_161_272, e_161_273, e_161_276, e_161_278, e_161_279, e_161_280, i_lit, i_add, i_mul, i_m1, i_lt, i_le, i_eq, i_cl, i_in, i_ltN, i_Nlt, i_leN, i_Nle, i_eN, i_Ne, i_inN, i_l1, i_l2, mj_cpok, mj_nn, reduceCtorEq, lg_self, Nat.not_lt_zero, Nat.zero_le, Nat.reduceEqDiff, Nat.reduceLT, Nat.reduceLeDiff, true_or, or_true, false_or, or_false, not_true_eq_false, not_false_eq_true, true_imp_iff, false_imp_iff, and_self, wrd, u2, and_true, true_and, and_false, false_and, and_self, ite_true, ite_false, reduceIte, g_646 G3, c131]
                (repeat' (first | (with_reducible refine And.intro ?_ ?_) | (with_reducible intro _)))
                all_goals first | omega | exact nn
              · rw [if_pos h500] at hZ
                dsimp only at hZ
                have nn := stop W2 (some (vI (Int32.ofNat r))) (some (vI (Int32.ofNat (p + T)))) (some (vI x8)) (some (vI x9)) (by rw [← hZ]; exact hF3) (by rw [← hZ]; exact ⟨i1, i2, i3, i4, i5, b2, by rw [b163]; exact e7⟩)
                rw [← hZ] at nn
                simp (disch := omega) only [mK_v, e_161_259, e_161_261, e_161_263, e_161_266, i_lit, i_add, i_mul, i_m1, i_lt, i_le, i_eq, i_cl, i_in, i_ltN, i_Nlt, i_leN, i_Nle, i_eN, i_Ne, i_inN, i_l1, i_l2, mj_cpok, mj_nn, reduceCtorEq, lg_self, Nat.not_lt_zero, Nat.zero_le, Nat.reduceEqDiff, Nat.reduceLT, Nat.reduceLeDiff, true_or, or_true, false_or, or_false, not_true_eq_false, not_false_eq_true, true_imp_iff, false_imp_iff, and_self, wrd, u2, and_true, true_and, and_false, false_and, and_self, ite_true, ite_false, reduceIte]
                (repeat' (first | (with_reducible refine And.intro ?_ ?_) | (with_reducible intro _)))
                all_goals first | omega | exact nn
            · rw [if_pos hz] at hZ
              dsimp only at hZ
              rw [hz] at b132
              have nn := ih (m, p + T, cnt, bad, out + 1, F) W2 (some (vI (Int32.ofNat r))) (some (vI (Int32.ofNat (p + T)))) (some (vI x8)) (some (vI x9)) (by dsimp only; omega) hF3 (by
                refine ⟨hm, by dsimp only; omega, i3, by dsimp only; omega, by dsimp only; omega, b2, by rw [b163]; exact e7⟩) hZ
              simp (disch := omega) only [e_161_229, e_161_231, e_161_232, e_161_235, e_161_237, e_161_238, e_161_241, e_161_244, e_161_261, e_161_263, e_161_269, e_161_271, e_161_272, e_161_273, e_161_276, e_161_278, e_161_279, e_161_280, i_lit, i_add, i_mul, i_m1, i_lt, i_le, i_eq, i_cl, i_in, i_ltN, i_Nlt, i_leN, i_Nle, i_eN, i_Ne, i_inN, i_l1, i_l2, mj_cpok, mj_nn, reduceCtorEq, lg_self, Nat.not_lt_zero, Nat.zero_le, Nat.reduceEqDiff, Nat.reduceLT, Nat.reduceLeDiff, true_or, or_true, false_or, or_false, not_true_eq_false, not_false_eq_true, true_imp_iff, false_imp_iff, and_self, wrd, u2, and_true, true_and, and_false, false_and, and_self, ite_true, ite_false, reduceIte, g_647 G2, g_646 G2, b132, b131]
              (repeat' (first | (with_reducible refine And.intro ?_ ?_) | (with_reducible intro _)))
              all_goals first | omega | exact nn | (rename_i q; exact absurd q (by decide))
          dsimp only [en]
          simp (disch := omega) only [e_161_175, e_161_177, e_161_178, e_161_220, e_161_221, e_161_223, e_161_224, e_161_226, i_lit, i_add, i_mul, i_m1, i_lt, i_le, i_eq, i_cl, i_in, i_ltN, i_Nlt, i_leN, i_Nle, i_eN, i_Ne, i_inN, i_l1, i_l2, mj_cpok, mj_nn, reduceCtorEq, lg_self, Nat.not_lt_zero, Nat.zero_le, Nat.reduceEqDiff, Nat.reduceLT, Nat.reduceLeDiff, true_or, or_true, false_or, or_false, not_true_eq_false, not_false_eq_true, true_imp_iff, false_imp_iff, and_self, wrd, u2, and_true, true_and, and_false, false_and, and_self, ite_true, ite_false, reduceIte]
          (repeat' (first | (with_reducible refine And.intro ?_ ?_) | (with_reducible intro _)))
          all_goals try omega
          rcases hA0.2.2.2.2.2.1.2 with h0 | h0
          · have m0 := aft W Fr_refl
            rw [ctT_no h0] at m0
            refine s_160n (np := 0) (tp := 0) G' (by omega) (by rw [r133]; exact h0) ?_
            rw [mK_v]
            exact m0
          · have hut : ∀ i, i < Lp → u i < 8 ∧ wAI W 129 (p + i) = Int32.ofNat (97 + u i) := fun i hi => ⟨(ltO_lt (hu i hi)).1, by rw [(hBW (p + i) (by omega)).2, hu9 i hi]⟩
            refine s_160 G' (by omega) hA1 hB1 (by rw [r133]; exact h0) l1 (by omega) hut (by
              obtain ⟨k, k1, k2, k3⟩ := hex0 h0
              exact ⟨k, k1, k2, (hcf.2 k).mpr k3⟩) (fun W2 k hF2 c1 c2 c3 c4 => ?_)
            have hk := ctT_eq hA0 h0 hu9 c1 c2 ((hcf.2 k).mp c3) (fun j h1 h2 q => c4 j h1 h2 ((hcf.2 j).mpr q))
            have m0 := aft W2 hF2
            rw [hk] at m0
            rw [mK_v]
            exact m0
      have find := s_161f (d := d + 2) (Q := Q) (x3 := Int32.ofNat bad) (x4 := Int32.ofNat out) (x5 := Int32.ofNat 1) G' i1 hAW p1 (fun s q hs hq => by have := p2 s q hs hq; omega) hn a642 hBW i2 body (n - p) 0 (Nat.zero_add _)
      have e0 : pq (NM md) (MU md) B p 0 = if 0 < NM md then some 0 else none := rfl
      rw [e0] at find
      by_cases h0 : 0 < NM md
      · rw [if_pos h0] at find
        simp (disch := omega) only [e_161_37, e_161_40, e_161_41, e_161_42, e_161_45, e_161_48, e_161_49, e_161_51, e_161_52, e_161_54, e_161_55, e_161_58, e_161_59, e_161_60, e_161_63, e_161_64, e_161_68, e_161_70, e_161_71, i_lit, i_add, i_mul, i_m1, i_lt, i_le, i_eq, i_cl, i_in, i_ltN, i_Nlt, i_leN, i_Nle, i_eN, i_Ne, i_inN, i_l1, i_l2, mj_cpok, mj_nn, reduceCtorEq, lg_self, Nat.not_lt_zero, Nat.zero_le, Nat.reduceEqDiff, Nat.reduceLT, Nat.reduceLeDiff, true_or, or_true, false_or, or_false, not_true_eq_false, not_false_eq_true, true_imp_iff, false_imp_iff, and_self, wrd, u2, and_true, true_and, and_false, false_and, and_self, ite_true, ite_false, reduceIte, a642, g_665 G', eN]
        (repeat' (first | (with_reducible refine And.intro ?_ ?_) | (with_reducible intro _)))
        all_goals first | omega | exact find
      · rw [if_neg h0] at find
        simp (disch := omega) only [e_161_37, e_161_40, e_161_41, e_161_42, e_161_45, e_161_48, e_161_49, e_161_51, e_161_52, e_161_54, e_161_55, e_161_58, e_161_59, e_161_60, e_161_67, e_161_68, e_161_70, e_161_71, i_lit, i_add, i_mul, i_m1, i_lt, i_le, i_eq, i_cl, i_in, i_ltN, i_Nlt, i_leN, i_Nle, i_eN, i_Ne, i_inN, i_l1, i_l2, mj_cpok, mj_nn, reduceCtorEq, lg_self, Nat.not_lt_zero, Nat.zero_le, Nat.reduceEqDiff, Nat.reduceLT, Nat.reduceLeDiff, true_or, or_true, false_or, or_false, not_true_eq_false, not_false_eq_true, true_imp_iff, false_imp_iff, and_self, wrd, u2, and_true, true_and, and_false, false_and, and_self, ite_true, ite_false, reduceIte, a642, g_665 G', eN]
        (repeat' (first | (with_reducible refine And.intro ?_ ?_) | (with_reducible intro _)))
        all_goals first | omega | exact find
    · rw [if_neg hp] at hZ
      subst hZ
      have k0 := K W (Int32.ofNat 1) l6 l7 l8 l9 hF hI2
      simp (disch := omega) only [e_161_37, e_161_40, e_161_41, e_161_42, e_161_45, i_lit, i_add, i_mul, i_m1, i_lt, i_le, i_eq, i_cl, i_in, i_ltN, i_Nlt, i_leN, i_Nle, i_eN, i_Ne, i_inN, i_l1, i_l2, mj_cpok, mj_nn, reduceCtorEq, lg_self, Nat.not_lt_zero, Nat.zero_le, Nat.reduceEqDiff, Nat.reduceLT, Nat.reduceLeDiff, true_or, or_true, false_or, or_false, not_true_eq_false, not_false_eq_true, true_imp_iff, false_imp_iff, and_self, wrd, u2, and_true, true_and, and_false, false_and, and_self, ite_true, ite_false, reduceIte, a642]
      (repeat' (first | (with_reducible refine And.intro ?_ ?_) | (with_reducible intro _)))
      all_goals first | omega | exact k0
end SC
