/-! scan: the reference, built. -/
section SC
variable {w : MWd} {k : Nat} {x : Int32}
theorem sf_RuleA (hk : 640 ≤ k) {r np tp : Nat} : RuleA (sFI w k 128 x) r np tp = RuleA w r np tp := by
  have e : ∀ i, i < 640 → ∀ a, wFI (sFI w k 128 x) i a = wFI w i a := fun i hi a => by
    have h : ¬ i = k := by omega
    simp only [mj_cpok, mj_nn, reduceCtorEq, lg_self, Nat.not_lt_zero, Nat.zero_le, Nat.reduceEqDiff, Nat.reduceLT, Nat.reduceLeDiff, true_or, or_true, false_or, or_false, not_true_eq_false, not_false_eq_true, true_imp_iff, false_imp_iff, and_self, wrd, u2, and_true, true_and, and_false, false_and, and_self, ite_true, ite_false, reduceIte, h]
  unfold RuleA
  simp only [e 322 (by omega), e 323 (by omega), e 324 (by omega), e 325 (by omega), e 326 (by omega), e 327 (by omega), e 328 (by omega), e 330 (by omega), e 334 (by omega), mj_cpok, mj_nn, reduceCtorEq, lg_self, Nat.not_lt_zero, Nat.zero_le, Nat.reduceEqDiff, Nat.reduceLT, Nat.reduceLeDiff, true_or, or_true, false_or, or_false, not_true_eq_false, not_false_eq_true, true_imp_iff, false_imp_iff, and_self, wrd, u2, and_true, true_and, and_false, false_and, and_self, ite_true, ite_false, reduceIte]
theorem sf_cut (hk : 640 ≤ k) {r np L : Nat} {u : Nat → Nat} : cutRw (sFI w k 128 x) r np L u = cutRw w r np L u := by
  have e : ∀ i, i < 640 → ∀ a, wFI (sFI w k 128 x) i a = wFI w i a := fun i hi a => by
    have h : ¬ i = k := by omega
    simp only [mj_cpok, mj_nn, reduceCtorEq, lg_self, Nat.not_lt_zero, Nat.zero_le, Nat.reduceEqDiff, Nat.reduceLT, Nat.reduceLeDiff, true_or, or_true, false_or, or_false, not_true_eq_false, not_false_eq_true, true_imp_iff, false_imp_iff, and_self, wrd, u2, and_true, true_and, and_false, false_and, and_self, ite_true, ite_false, reduceIte, h]
  have e1 : rFi (sFI w k 128 x) r = rFi w r := by unfold rFi; rw [e 328 (by omega)]
  have e2 : rLa (sFI w k 128 x) r = rLa w r := by unfold rLa; rw [e 330 (by omega)]
  unfold cutRw
  rw [e1, e2]
  rfl
theorem sf_ct (hk : 640 ≤ k) {r p L : Nat} {B : Nat → Nat} : ctT (sFI w k 128 x) r B p L = ctT w r B p L := by
  have eA : RuleA (sFI w k 128 x) = RuleA w := by funext r np tp; exact sf_RuleA hk
  have eC : cutRw (sFI w k 128 x) = cutRw w := by funext r np L u; exact sf_cut hk
  unfold ctT
  rw [eA, eC]
  rfl
theorem sf_step (hk : 640 ≤ k) {n : Nat} {B NM : Nat → Nat} {MU AN : Nat → Nat → Option Nat} (z : scS) : scStep (sFI w k 128 x) n B NM MU AN z = scStep w n B NM MU AN z := by
  unfold scStep
  simp only [sf_ct hk]
  rfl
theorem sf_run (hk : 640 ≤ k) {n : Nat} {B NM : Nat → Nat} {MU AN : Nat → Nat → Option Nat} : ∀ (f : Nat) (z : scS), scRun (sFI w k 128 x) n B NM MU AN f z = scRun w n B NM MU AN f z
  | 0, z => rfl
  | f + 1, z => by
    unfold scRun
    rw [sf_step hk]
    simp only [sf_run hk f]
theorem sf_ok (hk : 640 ≤ k) {nr n : Nat} {B NM : Nat → Nat} {MU AN : Nat → Nat → Option Nat} (h : scOk w nr n B NM MU AN) : scOk (sFI w k 128 x) nr n B NM MU AN := by
  obtain ⟨o1, o2, o3, o4⟩ := h
  refine ⟨o1, fun r hr => RuleOk_Fr (F := fun k' a => k' = k ∧ a = 128) (R := fun _ => False) (x := 0) (y := 0) (Fr_sFI Fr_refl (Or.inl ⟨rfl, rfl⟩)) (by omega) (o2 r hr) (by omega) (fun _ _ q => q), o3, ?_⟩
  intro m p r L a1 a2 a3 a4 np tp u a5 a6
  rw [sf_RuleA hk] at a5
  rw [sf_cut hk]
  exact o4 m p r L a1 a2 a3 a4 np tp u a5 a6
end SC
section SC
variable {d : Nat} {w : MWd} {Q : MRes → MWd → Prop}
theorem s_161 {n nr : Nat} {B NM : Nat → Nat} {MU AN : Nat → Nat → Option Nat} (G : Gr w) (hb : wFI w 663 128 = Int32.ofNat 1) (hn : n ≤ 1000) (h1 : wFI w 642 128 = Int32.ofNat n)
    (hB : ∀ i, i < n → B i < 256 ∧ wAI w 129 i = Int32.ofNat (B i)) (hA : ∀ m, m < 4 → RefA w m (NM m) (MU m) (AN m)) (hok : scOk w nr n B NM MU AN) {Z : scS} (hZ : scRun w n B NM MU AN n sc0 = Z)
    (K : ∀ W, Fr scZe scYe 501 2004 w W → scJ W n Z → wFI W 640 128 = Int32.ofNat 0 → wFI W 642 128 = Int32.ofNat 0 → wAI W 164 0 = Int32.ofNat Z.1 → wAI W 164 1 = Int32.ofNat Z.2.1 → wAI W 164 2 = Int32.ofNat Z.2.2.2.1 → wAI W 164 3 = Int32.ofNat Z.2.2.2.2.1 → Q (.inl (some (vI (Int32.ofNat Z.2.2.1)))) W) :
    mR (d + 4) w 161 0 [some (vR (some (10, 0, 128))), none, none, none, none, none, none, none, none, none] [] Q := by
  have hf0 : Fr scZe scYe 0 0 w (sFI (sFI w 640 128 (Int32.ofNat 0)) 678 128 (Int32.ofNat 0)) := Fr_sFI (Fr_sFI Fr_refl (by omega)) (by omega)
  have nn : mR (d + 4) (sFI (sFI w 640 128 (Int32.ofNat 0)) 678 128 (Int32.ofNat 0)) 161 35 [some (vR (some (10, 0, 128))), some (vI (Int32.ofNat 0)), some (vI (Int32.ofNat 0)), some (vI (Int32.ofNat 0)), some (vI (Int32.ofNat 0)), some (vI (Int32.ofNat 1)), none, none, none, none] [] Q := by
    generalize hw' : sFI (sFI w 640 128 (Int32.ofNat 0)) 678 128 (Int32.ofNat 0) = w' at hf0
    have e678 : wFI w' 678 128 = Int32.ofNat 0 := by rw [← hw']; simp only [mj_cpok, mj_nn, reduceCtorEq, lg_self, Nat.not_lt_zero, Nat.zero_le, Nat.reduceEqDiff, Nat.reduceLT, Nat.reduceLeDiff, true_or, or_true, false_or, or_false, not_true_eq_false, not_false_eq_true, true_imp_iff, false_imp_iff, and_self, wrd, u2, and_true, true_and, and_false, false_and, and_self, ite_true, ite_false, reduceIte]
    have e640 : wFI w' 640 128 = Int32.ofNat 0 := by rw [← hw']; simp only [mj_cpok, mj_nn, reduceCtorEq, lg_self, Nat.not_lt_zero, Nat.zero_le, Nat.reduceEqDiff, Nat.reduceLT, Nat.reduceLeDiff, true_or, or_true, false_or, or_false, not_true_eq_false, not_false_eq_true, true_imp_iff, false_imp_iff, and_self, wrd, u2, and_true, true_and, and_false, false_and, and_self, ite_true, ite_false, reduceIte]
    have hok' : scOk w' nr n B NM MU AN := by rw [← hw']; exact sf_ok (by decide) (sf_ok (by decide) hok)
    have hZ' : scRun w' n B NM MU AN n sc0 = Z := by rw [← hw', sf_run (by decide), sf_run (by decide)]; exact hZ
    have h1' : wFI w' 642 128 = Int32.ofNat n := by rw [← hw']; simp only [mj_cpok, mj_nn, reduceCtorEq, lg_self, Nat.not_lt_zero, Nat.zero_le, Nat.reduceEqDiff, Nat.reduceLT, Nat.reduceLeDiff, true_or, or_true, false_or, or_false, not_true_eq_false, not_false_eq_true, true_imp_iff, false_imp_iff, and_self, wrd, u2, and_true, true_and, and_false, false_and, and_self, ite_true, ite_false, reduceIte]; exact h1
    have hB' : ∀ i, i < n → B i < 256 ∧ wAI w' 129 i = Int32.ofNat (B i) := by rw [← hw']; exact hB
    have hA' : ∀ m, m < 4 → RefA w' m (NM m) (MU m) (AN m) := by rw [← hw']; exact hA
    have G' := Fr_Gr hf0 G
    refine s_161l (d := d) G' hn h1' hB' hA' hok' (Z := Z) (fun W x5 l6 l7 l8 l9 hF hJ => ?_) n sc0 w' none none none none (Nat.sub_le _ _) Fr_refl ⟨by decide, Nat.zero_le _, by decide, Nat.le_refl _, Nat.le_refl _, e678, fun i hi => absurd hi (Nat.not_lt_zero i)⟩ hZ'
    obtain ⟨j1, j2, j3, j4, j5, j6, j7⟩ := hJ
    refine s_161e (Fr_Gr hF G') j6 (fun W2 hF2 k1 k2 k3 k4 k5 k6 k7 => ?_)
    have e640' : wFI W2 640 128 = Int32.ofNat 0 := (Fr_fi hF2 (by decide) (by omega)).trans ((Fr_fi hF (by decide) (by omega)).trans e640)
    have hF3 : Fr scZe scYe 501 2004 w W2 := Fr_weak (Fr_trans hf0 (Fr_trans (Fr_weak hF (fun k a h => by omega) (fun a h => by omega) (Nat.le_refl _) (Nat.le_refl _)) (Fr_weak hF2 (fun k a h => by omega) (fun a h => by omega) (Nat.le_refl _) (Nat.le_refl _)))) (fun k a h => h) (fun a h => h) (by omega) (by omega)
    refine K W2 hF3 ⟨j1, j2, j3, j4, j5, k1, by rw [k2]; exact j7⟩ e640' k3 k4 k5 k6 k7
  simp (disch := omega) only [e_161_0, e_161_1, e_161_2, e_161_5, e_161_6, e_161_9, e_161_18, e_161_19, e_161_20, e_161_23, e_161_24, e_161_25, e_161_26, e_161_27, e_161_28, e_161_29, e_161_30, e_161_32, e_161_33, i_lit, i_add, i_mul, i_m1, i_lt, i_le, i_eq, i_cl, i_in, i_ltN, i_Nlt, i_leN, i_Nle, i_eN, i_Ne, i_inN, i_l1, i_l2, mj_cpok, mj_nn, reduceCtorEq, lg_self, Nat.not_lt_zero, Nat.zero_le, Nat.reduceEqDiff, Nat.reduceLT, Nat.reduceLeDiff, true_or, or_true, false_or, or_false, not_true_eq_false, not_false_eq_true, true_imp_iff, false_imp_iff, and_self, wrd, u2, and_true, true_and, and_false, false_and, and_self, ite_true, ite_false, reduceIte, hb]
  (repeat' (first | (with_reducible refine And.intro ?_ ?_) | (with_reducible intro _)))
  all_goals first | omega | exact nn | (rename_i q; exact absurd q (by decide))
end SC
