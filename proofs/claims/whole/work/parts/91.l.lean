/-! addRule: the class reads a pattern, all of it. -/
def sgn (n : Nat) (B : Nat → Nat) (a : Nat) : Nat := if a < n ∧ a < 40 then B a else 256
theorem sgn_ok {n : Nat} {B : Nat → Nat} (hB : ∀ i, i < n → B i < 256) : sgOk (sgn n B) := fun i => by
  unfold sgn
  by_cases c : i < n ∧ i < 40
  · rw [if_pos c]
    have := hB i c.1
    exact ⟨by omega, fun h => by omega⟩
  · rw [if_neg c]; exact ⟨Nat.le_refl _, fun _ => rfl⟩
section CL
variable {d : Nat} {W : MWd} {S : Nat → Nat} {r : Nat} {Q : MRes → MWd → Prop}
theorem c_41 {i tp t : Nat} {fo lt : Nat → Int32} {l : Int32} (hS : sgOk S) (hr : r < 12) (G : Gr W) (hs : clS S W) (hc : clR W r t i tp fo lt) (hi : i < 40) (hn : tp ≤ 30) (hf : ∀ p, tp ≤ p → fo p = Int32.ofNat 0) (h330 : wFI W 330 (6 + 3 * r) = l)
    (K0 : ∀ U e, eitG S 6 (i + 1) tp fo lt = .inl e → Fr (cG r) (cB r) 0 0 W U → wFI U 262 42 = Int32.ofNat e → Q (.inl none) U)
    (K1 : ∀ U i2 np fo2 lt2 f2 l2 e2, eitG S 6 (i + 1) tp fo lt = .inr (i2, np, fo2, lt2, f2, l2, e2) → Fr (cG r) (cB r) 0 0 W U → wFI U 262 42 = NN → wFI U 261 42 = Int32.ofNat i2 → wFI U 325 (6 + 3 * r) = Int32.ofNat 1 → wFI U 326 (6 + 3 * r) = Int32.ofNat np → wFI U 331 (6 + 3 * r) = f2 → wFI U 333 (6 + 3 * r) = b2 e2 → wFI U 329 (6 + 3 * r) = (if e2 = true then l2 ||| l else l2) →
      (∀ k, k = 327 ∨ k = 328 ∨ k = 330 ∨ k = 332 → wFI U k (6 + 3 * r) = wFI W k (6 + 3 * r)) → (∀ p, p < 30 → wAI U (7 + 3 * r) p = lkF fo2 l f2 p) → (∀ q x, q < 8 → x < 32 → bt (wAI U (8 + 3 * r) q) x = (decide (x < np) && bt (lt2 x) q)) → Q (.inl none) U) :
    mR (d + 38) W 41 0 [some (vR (some (4, 0, 42))), some (vR (some (5, 0, 6 + 3 * r)))] [] Q := by
  have hG := c_G hS hr 6 d 0 rfl
  rw [show d + 5 * 6 + 7 = d + 37 by omega] at hG
  obtain ⟨h262, h261, h260, h326, h7, h8⟩ := hc
  have F1 : Fr (cF r) (cA r) 0 0 W (sFI (sFI W 261 42 (Int32.ofNat (i + 1))) 260 42 (Int32.ofNat 0)) := Fr_sFI (Fr_sFI Fr_refl (by omega)) (by omega)
  have F1' : Fr (fun k a => a = 42) (fun _ => False) 0 0 W (sFI (sFI W 261 42 (Int32.ofNat (i + 1))) 260 42 (Int32.ofNat 0)) := Fr_sFI (Fr_sFI Fr_refl (by omega)) (by omega)
  have g2 : wFI (sFI (sFI W 261 42 (Int32.ofNat (i + 1))) 260 42 (Int32.ofNat 0)) 262 42 = NN := by simp only [mj_cpok, mj_nn, reduceCtorEq, lg_self, Nat.not_lt_zero, Nat.zero_le, Nat.reduceEqDiff, Nat.reduceLT, Nat.reduceLeDiff, true_or, or_true, false_or, or_false, not_true_eq_false, not_false_eq_true, true_imp_iff, false_imp_iff, and_self, wrd, u2, and_true, true_and, and_false, false_and, and_self, ite_true, ite_false, reduceIte]; exact h262
  have g1 : wFI (sFI (sFI W 261 42 (Int32.ofNat (i + 1))) 260 42 (Int32.ofNat 0)) 261 42 = Int32.ofNat (i + 1) := by simp only [mj_cpok, mj_nn, reduceCtorEq, lg_self, Nat.not_lt_zero, Nat.zero_le, Nat.reduceEqDiff, Nat.reduceLT, Nat.reduceLeDiff, true_or, or_true, false_or, or_false, not_true_eq_false, not_false_eq_true, true_imp_iff, false_imp_iff, and_self, wrd, u2, and_true, true_and, and_false, false_and, and_self, ite_true, ite_false, reduceIte]
  have g0 : wFI (sFI (sFI W 261 42 (Int32.ofNat (i + 1))) 260 42 (Int32.ofNat 0)) 260 42 = Int32.ofNat 0 := by simp only [mj_cpok, mj_nn, reduceCtorEq, lg_self, Nat.not_lt_zero, Nat.zero_le, Nat.reduceEqDiff, Nat.reduceLT, Nat.reduceLeDiff, true_or, or_true, false_or, or_false, not_true_eq_false, not_false_eq_true, true_imp_iff, false_imp_iff, and_self, wrd, u2, and_true, true_and, and_false, false_and, and_self, ite_true, ite_false, reduceIte]
  simp (disch := omega) only [e_41_0, e_41_1, e_41_2, e_41_5, e_41_6, e_41_7, e_41_10, e_41_11, e_41_12, e_41_15, e_41_16, e_41_17, e_41_18, e_41_21, e_41_22, e_41_25, e_41_26, e_41_29, e_41_30, e_41_31, e_41_34, e_41_35, e_41_36, e_41_37, e_41_40, e_41_41, e_41_42, e_41_43, e_41_46, e_41_47, e_41_48, e_41_51, i_lit, i_add, i_mul, i_m1, i_lt, i_le, i_eq, i_cl, i_in, i_ltN, i_Nlt, i_leN, i_Nle, i_eN, i_Ne, i_inN, i_l1, i_l2, mj_cpok, mj_nn, reduceCtorEq, lg_self, Nat.not_lt_zero, Nat.zero_le, Nat.reduceEqDiff, Nat.reduceLT, Nat.reduceLeDiff, true_or, or_true, false_or, or_false, not_true_eq_false, not_false_eq_true, true_imp_iff, false_imp_iff, and_self, wrd, u2, and_true, true_and, and_false, false_and, and_self, ite_true, ite_false, reduceIte, h261]
  generalize sFI (sFI W 261 42 (Int32.ofNat (i + 1))) 260 42 (Int32.ofNat 0) = W1 at F1 F1' g2 g1 g0 ⊢
  have G1 := Fr_Gr F1 G
  have c1 : clR W1 r 0 (i + 1) tp fo lt := ⟨g2, g1, g0, (Fr_fi F1' (by omega) (by omega)).trans h326, by rw [Fr_ai F1' (by omega) (fun q => q)]; exact h7, by rw [Fr_ai F1' (by omega) (fun q => q)]; exact h8⟩
  refine hG W1 0 (i + 1) tp fo lt _ G1 (clS_Fr hr F1 hs) c1 (Nat.zero_le _) (by omega) hn hf ?_
  cases hx : eitG S 6 (i + 1) tp fo lt with
  | inl e =>
    intro V hV v2 vd
    have FV : Fr (cG r) (cB r) 0 0 W V := cFG (Fr_trans (x := 0) (y := 0) F1 hV)
    have nn := c_41d (d := d + 36) (W0 := W1) (W := V) (r := r) (e := e) (Q := Q) (Fr_Gr FV G) hr v2 vd (fun U hU u2 => K0 U e hx (Fr_trans (x := 0) (y := 0) FV hU) u2)
    simp (disch := omega) only [mK_n]
    exact nn
  | inr y =>
    obtain ⟨i2, np, fo2, lt2, f2, l2, e2⟩ := y
    intro V hV hc2 v44 v45 v46 vj
    obtain ⟨u262, u261, u260, u326, u7, u8⟩ := hc2
    have FV0 : Fr (cF r) (cA r) 0 0 W V := Fr_trans (x := 0) (y := 0) F1 hV
    have FV : Fr (cG r) (cB r) 0 0 W V := cFG FV0
    have GV := Fr_Gr FV G
    have v330 : wFI V 330 (6 + 3 * r) = l := (Fr_fi FV0 (by omega) (by omega)).trans h330
    have n64 : mR (d + 37) V 64 0 [some (vR (some (5, 0, 6 + 3 * r))), some (vI f2), some (vI l2), some (vI (b2 e2))] [] (mK (d + 38) 41 48 51 [some (vR (some (4, 0, 42))), some (vR (some (5, 0, 6 + 3 * r)))] [] Q) := by
      refine c_64 (d := d + 36) (b2_01 e2) GV hr (fun U hU x5 x1 x3 x9 x7 => ?_)
      simp (disch := omega) only [e_41_0, e_41_1, e_41_2, e_41_5, e_41_6, e_41_7, e_41_10, e_41_11, e_41_12, e_41_15, e_41_16, e_41_17, e_41_18, e_41_21, e_41_22, e_41_25, e_41_26, e_41_29, e_41_30, e_41_31, e_41_34, e_41_35, e_41_36, e_41_37, e_41_40, e_41_41, e_41_42, e_41_43, e_41_46, e_41_47, e_41_48, e_41_51, i_lit, i_add, i_mul, i_m1, i_lt, i_le, i_eq, i_cl, i_in, i_ltN, i_Nlt, i_leN, i_Nle, i_eN, i_Ne, i_inN, i_l1, i_l2, mj_cpok, mj_nn, reduceCtorEq, lg_self, Nat.not_lt_zero, Nat.zero_le, Nat.reduceEqDiff, Nat.reduceLT, Nat.reduceLeDiff, true_or, or_true, false_or, or_false, not_true_eq_false, not_false_eq_true, true_imp_iff, false_imp_iff, and_self, wrd, u2, and_true, true_and, and_false, false_and, and_self, ite_true, ite_false, reduceIte, mK_n]
      refine K1 U i2 np fo2 lt2 f2 l2 e2 hx (Fr_trans (x := 0) (y := 0) FV (Fr_weak hU (fun _ _ q => by omega) (fun _ q => by omega) (Nat.le_refl _) (Nat.le_refl _))) ((Fr_fi hU (by decide) (by omega)).trans u262) ((Fr_fi hU (by decide) (by omega)).trans u261) x5 ((Fr_fi hU (by omega) (by omega)).trans u326) x1 x3 ?_ (fun k hk => (Fr_fi hU (by omega) (by omega)).trans (Fr_fi FV0 (by omega) (by omega))) (fun p hp => ?_) ?_
      · rw [x9, v330]
        cases e2
        · rfl
        · rfl
      · rw [x7 p hp, v330]; unfold lkF; rw [u7 p hp]
      · rw [Fr_ai hU (by omega) (by omega)]; exact u8
    simp (disch := omega) only [e_41_0, e_41_1, e_41_2, e_41_5, e_41_6, e_41_7, e_41_10, e_41_11, e_41_12, e_41_15, e_41_16, e_41_17, e_41_18, e_41_21, e_41_22, e_41_25, e_41_26, e_41_29, e_41_30, e_41_31, e_41_34, e_41_35, e_41_36, e_41_37, e_41_40, e_41_41, e_41_42, e_41_43, e_41_46, e_41_47, e_41_48, e_41_51, i_lit, i_add, i_mul, i_m1, i_lt, i_le, i_eq, i_cl, i_in, i_ltN, i_Nlt, i_leN, i_Nle, i_eN, i_Ne, i_inN, i_l1, i_l2, mj_cpok, mj_nn, reduceCtorEq, lg_self, Nat.not_lt_zero, Nat.zero_le, Nat.reduceEqDiff, Nat.reduceLT, Nat.reduceLeDiff, true_or, or_true, false_or, or_false, not_true_eq_false, not_false_eq_true, true_imp_iff, false_imp_iff, and_self, wrd, u2, and_true, true_and, and_false, false_and, and_self, ite_true, ite_false, reduceIte, mK_n, u260, g_257 GV, g_258 GV, g_259 GV, v44, v45, v46]
    (repeat' (first | (with_reducible refine And.intro ?_ ?_) | (with_reducible intro _)))
    all_goals first | omega | exact n64
/-- the signs -/
theorem c_40l {n : Nat} {B : Nat → Nat} (G : Gr W) (hn : n ≤ 1000) (h1 : wFI W 449 2 = Int32.ofNat n) (hB : ∀ i, i < n → B i < 256 ∧ wAI W 3 i = Int32.ofNat (B i)) {ru : Option Ptr}
    (K : ∀ V, Fr (fun _ _ => False) (fun a => a = 43) 0 0 W V → clS (sgn n B) V → mR (d + 1) V 40 25 [some (vR (some (4, 0, 42))), some (vR (some (7, 0, 2))), some (vR ru), some (vI (Int32.ofNat 40))] [] Q) :
    ∀ (f j : Nat) (V : MWd), j + f = 40 → Fr (fun _ _ => False) (fun a => a = 43) 0 0 W V → (∀ i, i < j → wAI V 43 i = sgI (sgn n B i)) → mR (d + 1) V 40 2 [some (vR (some (4, 0, 42))), some (vR (some (7, 0, 2))), some (vR ru), some (vI (Int32.ofNat j))] [] Q := by
  intro f
  induction f with
  | zero =>
    intro j V hj hF hV
    have e : j = 40 := by omega
    subst e
    have k0 := K V hF hV
    rw [e_40_2]
    simp (disch := omega) only [e_40_3, e_40_5, i_lit, i_add, i_mul, i_m1, i_lt, i_le, i_eq, i_cl, i_in, i_ltN, i_Nlt, i_leN, i_Nle, i_eN, i_Ne, i_inN, i_l1, i_l2, mj_cpok, mj_nn, reduceCtorEq, lg_self, Nat.not_lt_zero, Nat.zero_le, Nat.reduceEqDiff, Nat.reduceLT, Nat.reduceLeDiff, true_or, or_true, false_or, or_false, not_true_eq_false, not_false_eq_true, true_imp_iff, false_imp_iff, and_self, wrd, u2, and_true, true_and, and_false, false_and, and_self, ite_true, ite_false, reduceIte]
    (repeat' (first | (with_reducible refine And.intro ?_ ?_) | (with_reducible intro _)))
    all_goals first | omega | exact k0
  | succ f ih =>
    intro j V hj hF hV
    have GV := Fr_Gr hF G
    have a449 : wFI V 449 2 = Int32.ofNat n := (Fr_fi hF (by decide) (fun q => q)).trans h1
    have a3 : wAI V 3 = wAI W 3 := Fr_ai hF (by decide) (by omega)
    have nn := ih (j + 1) (sAI V 43 j (sgI (sgn n B j))) (by omega) (Fr_sAI hF (by omega)) (fun i hi => by
      simp only [mj_cpok, mj_nn, reduceCtorEq, lg_self, Nat.not_lt_zero, Nat.zero_le, Nat.reduceEqDiff, Nat.reduceLT, Nat.reduceLeDiff, true_or, or_true, false_or, or_false, not_true_eq_false, not_false_eq_true, true_imp_iff, false_imp_iff, and_self, wrd, u2, and_true, true_and, and_false, false_and, and_self, ite_true, ite_false, reduceIte]
      by_cases c : i = j
      · rw [if_pos c, c]
      · rw [if_neg c]; exact hV i (by omega))
    rw [e_40_2]
    by_cases c : j < n
    · have eB : wAI V 3 j = Int32.ofNat (B j) := by rw [a3]; exact (hB j c).2
      have hb := (hB j c).1
      have es : sgI (sgn n B j) = Int32.ofNat (B j) := by
        unfold sgn; rw [if_pos ⟨c, by omega⟩, sgI_n (by omega)]
      rw [es] at nn
      simp (disch := omega) only [e_40_3, e_40_5, e_40_8, e_40_9, e_40_12, e_40_13, e_40_14, e_40_15, e_40_18, e_40_19, e_40_22, e_79_0, e_79_1, e_79_4, e_79_5, e_79_6, e_79_9, e_79_12, e_79_13, e_79_16, e_79_19, e_79_20, e_79_23, e_79_24, e_79_25, e_79_28, e_79_29, i_lit, i_add, i_mul, i_m1, i_lt, i_le, i_eq, i_cl, i_in, i_ltN, i_Nlt, i_leN, i_Nle, i_eN, i_Ne, i_inN, i_l1, i_l2, mj_cpok, mj_nn, reduceCtorEq, lg_self, Nat.not_lt_zero, Nat.zero_le, Nat.reduceEqDiff, Nat.reduceLT, Nat.reduceLeDiff, true_or, or_true, false_or, or_false, not_true_eq_false, not_false_eq_true, true_imp_iff, false_imp_iff, and_self, wrd, u2, and_true, true_and, and_false, false_and, and_self, ite_true, ite_false, reduceIte, mK_v, g_256 GV, g_448 GV, a449, eB]
      (repeat' (first | (with_reducible refine And.intro ?_ ?_) | (with_reducible intro _)))
      all_goals first | omega | exact nn
    · have es : sgI (sgn n B j) = NN := by
        unfold sgn; rw [if_neg (fun q => c q.1)]; rfl
      rw [es] at nn
      simp (disch := omega) only [e_40_3, e_40_5, e_40_8, e_40_9, e_40_12, e_40_13, e_40_14, e_40_15, e_40_18, e_40_19, e_40_22, e_79_0, e_79_1, e_79_4, e_79_5, e_79_6, e_79_9, e_79_12, e_79_13, e_79_16, e_79_19, e_79_20, e_79_23, e_79_24, e_79_25, e_79_28, e_79_29, i_lit, i_add, i_mul, i_m1, i_lt, i_le, i_eq, i_cl, i_in, i_ltN, i_Nlt, i_leN, i_Nle, i_eN, i_Ne, i_inN, i_l1, i_l2, mj_cpok, mj_nn, reduceCtorEq, lg_self, Nat.not_lt_zero, Nat.zero_le, Nat.reduceEqDiff, Nat.reduceLT, Nat.reduceLeDiff, true_or, or_true, false_or, or_false, not_true_eq_false, not_false_eq_true, true_imp_iff, false_imp_iff, and_self, wrd, u2, and_true, true_and, and_false, false_and, and_self, ite_true, ite_false, reduceIte, mK_v, g_256 GV, a449]
      (repeat' (first | (with_reducible refine And.intro ?_ ?_) | (with_reducible intro _)))
      all_goals first | omega | exact nn
end CL
