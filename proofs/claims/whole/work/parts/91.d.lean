/-! addRule: the class's reader, rows of spans. -/
def spT (S : Nat → Nat) (f i : Nat) (m : Int32) : Nat ⊕ (Nat × Int32) := if isL (S i) then spR S f i m else if S i = 93 then .inr (i + 1, m) else .inl i
theorem spR_s {S : Nat → Nat} {f i : Nat} {m : Int32} : spR S (f + 1) i m = match sp1 S i with
    | .inl e => .inl e
    | .inr (i', m') => spT S f i' (m ||| m') := rfl
section CL
variable {d : Nat} {W : MWd} {S : Nat → Nat} {i : Nat} {Q : MRes → MWd → Prop}
theorem c_50 {c : Nat} (hc : c < 256) (G : Gr W) (hS : sgOk S) (hs : clS S W) (h2 : wFI W 262 42 = NN) (h1 : wFI W 261 42 = Int32.ofNat i) (hi : i ≤ 40)
    (K1 : S i = c → Q (.inl none) (sFI W 261 42 (Int32.ofNat (i + 1)))) (K0 : S i ≠ c → Q (.inl none) (sFI W 262 42 (Int32.ofNat i))) : mR (d + 1) W 50 0 [some (vR (some (4, 0, 42))), some (vI (Int32.ofNat c))] [] Q := by
  simp (disch := omega) only [e_50_0, e_50_1, e_50_4, e_50_5, e_50_8, e_50_9, e_50_10, e_50_13, e_50_14, e_50_15, e_50_18, e_50_21, e_50_22, e_50_25, i_lit, i_add, i_mul, i_m1, i_lt, i_le, i_eq, i_cl, i_in, i_ltN, i_Nlt, i_leN, i_Nle, i_eN, i_Ne, i_inN, i_l1, i_l2, mj_cpok, mj_nn, reduceCtorEq, lg_self, Nat.not_lt_zero, Nat.zero_le, Nat.reduceEqDiff, Nat.reduceLT, Nat.reduceLeDiff, true_or, or_true, false_or, or_false, not_true_eq_false, not_false_eq_true, true_imp_iff, false_imp_iff, and_self, wrd, u2, and_true, true_and, and_false, false_and, and_self, ite_true, ite_false, reduceIte]
  refine c_52 G hS hs h2 h1 hi ?_
  have := hS i
  by_cases c0 : S i = c
  · have k := K1 c0
    rw [c0, sgI_n (by omega)]
    simp (disch := omega) only [e_50_0, e_50_1, e_50_4, e_50_5, e_50_8, e_50_9, e_50_10, e_50_13, e_50_14, e_50_15, e_50_18, e_50_21, e_50_22, e_50_25, i_lit, i_add, i_mul, i_m1, i_lt, i_le, i_eq, i_cl, i_in, i_ltN, i_Nlt, i_leN, i_Nle, i_eN, i_Ne, i_inN, i_l1, i_l2, mj_cpok, mj_nn, reduceCtorEq, lg_self, Nat.not_lt_zero, Nat.zero_le, Nat.reduceEqDiff, Nat.reduceLT, Nat.reduceLeDiff, true_or, or_true, false_or, or_false, not_true_eq_false, not_false_eq_true, true_imp_iff, false_imp_iff, and_self, wrd, u2, and_true, true_and, and_false, false_and, and_self, ite_true, ite_false, reduceIte, mK_v, h1]
    (repeat' (first | (with_reducible refine And.intro ?_ ?_) | (with_reducible intro _)))
    all_goals first | omega | exact k
  · have k := K0 c0
    have h51 : mR d W 51 0 [some (vR (some (4, 0, 42)))] [] (mK (d + 1) 50 22 25 [some (vR (some (4, 0, 42))), some (vI (Int32.ofNat c))] [] Q) := by
      refine c_51 h2 h1 ?_
      simp (disch := omega) only [e_50_0, e_50_1, e_50_4, e_50_5, e_50_8, e_50_9, e_50_10, e_50_13, e_50_14, e_50_15, e_50_18, e_50_21, e_50_22, e_50_25, i_lit, i_add, i_mul, i_m1, i_lt, i_le, i_eq, i_cl, i_in, i_ltN, i_Nlt, i_leN, i_Nle, i_eN, i_Ne, i_inN, i_l1, i_l2, mj_cpok, mj_nn, reduceCtorEq, lg_self, Nat.not_lt_zero, Nat.zero_le, Nat.reduceEqDiff, Nat.reduceLT, Nat.reduceLeDiff, true_or, or_true, false_or, or_false, not_true_eq_false, not_false_eq_true, true_imp_iff, false_imp_iff, and_self, wrd, u2, and_true, true_and, and_false, false_and, and_self, ite_true, ite_false, reduceIte, mK_n]
      exact k
    by_cases c9 : S i = 256
    · rw [c9, sgI_e]
      simp (disch := omega) only [e_50_0, e_50_1, e_50_4, e_50_5, e_50_8, e_50_9, e_50_10, e_50_13, e_50_14, e_50_15, e_50_18, e_50_21, e_50_22, e_50_25, i_lit, i_add, i_mul, i_m1, i_lt, i_le, i_eq, i_cl, i_in, i_ltN, i_Nlt, i_leN, i_Nle, i_eN, i_Ne, i_inN, i_l1, i_l2, mj_cpok, mj_nn, reduceCtorEq, lg_self, Nat.not_lt_zero, Nat.zero_le, Nat.reduceEqDiff, Nat.reduceLT, Nat.reduceLeDiff, true_or, or_true, false_or, or_false, not_true_eq_false, not_false_eq_true, true_imp_iff, false_imp_iff, and_self, wrd, u2, and_true, true_and, and_false, false_and, and_self, ite_true, ite_false, reduceIte, mK_v, h1]
      (repeat' (first | (with_reducible refine And.intro ?_ ?_) | (with_reducible intro _)))
      all_goals first | omega | exact h51
    · rw [sgI_n c9]
      simp (disch := omega) only [e_50_0, e_50_1, e_50_4, e_50_5, e_50_8, e_50_9, e_50_10, e_50_13, e_50_14, e_50_15, e_50_18, e_50_21, e_50_22, e_50_25, i_lit, i_add, i_mul, i_m1, i_lt, i_le, i_eq, i_cl, i_in, i_ltN, i_Nlt, i_leN, i_Nle, i_eN, i_Ne, i_inN, i_l1, i_l2, mj_cpok, mj_nn, reduceCtorEq, lg_self, Nat.not_lt_zero, Nat.zero_le, Nat.reduceEqDiff, Nat.reduceLT, Nat.reduceLeDiff, true_or, or_true, false_or, or_false, not_true_eq_false, not_false_eq_true, true_imp_iff, false_imp_iff, and_self, wrd, u2, and_true, true_and, and_false, false_and, and_self, ite_true, ite_false, reduceIte, mK_v, h1]
      (repeat' (first | (with_reducible refine And.intro ?_ ?_) | (with_reducible intro _)))
      all_goals first | omega | exact h51
theorem c_50d {c e : Nat} (hc : c < 256) (he : e ≤ 40) (h2 : wFI W 262 42 = Int32.ofNat e) (h : Q (.inl none) W) : mR (d + 1) W 50 0 [some (vR (some (4, 0, 42))), some (vI (Int32.ofNat c))] [] Q := by
  simp (disch := omega) only [e_50_0, e_50_1, e_50_4, e_50_5, e_50_8, e_50_9, e_50_10, e_50_13, e_50_14, e_50_15, e_50_18, e_50_21, e_50_22, e_50_25, i_lit, i_add, i_mul, i_m1, i_lt, i_le, i_eq, i_cl, i_in, i_ltN, i_Nlt, i_leN, i_Nle, i_eN, i_Ne, i_inN, i_l1, i_l2, mj_cpok, mj_nn, reduceCtorEq, lg_self, Nat.not_lt_zero, Nat.zero_le, Nat.reduceEqDiff, Nat.reduceLT, Nat.reduceLeDiff, true_or, or_true, false_or, or_false, not_true_eq_false, not_false_eq_true, true_imp_iff, false_imp_iff, and_self, wrd, u2, and_true, true_and, and_false, false_and, and_self, ite_true, ite_false, reduceIte]
  refine c_52d he h2 ?_
  simp (disch := omega) only [e_50_0, e_50_1, e_50_4, e_50_5, e_50_8, e_50_9, e_50_10, e_50_13, e_50_14, e_50_15, e_50_18, e_50_21, e_50_22, e_50_25, i_lit, i_add, i_mul, i_m1, i_lt, i_le, i_eq, i_cl, i_in, i_ltN, i_Nlt, i_leN, i_Nle, i_eN, i_Ne, i_inN, i_l1, i_l2, mj_cpok, mj_nn, reduceCtorEq, lg_self, Nat.not_lt_zero, Nat.zero_le, Nat.reduceEqDiff, Nat.reduceLT, Nat.reduceLeDiff, true_or, or_true, false_or, or_false, not_true_eq_false, not_false_eq_true, true_imp_iff, false_imp_iff, and_self, wrd, u2, and_true, true_and, and_false, false_and, and_self, ite_true, ite_false, reduceIte, mK_v]
  (repeat' (first | (with_reducible refine And.intro ?_ ?_) | (with_reducible intro _)))
  all_goals try omega
  refine c_51d he h2 ?_
  simp (disch := omega) only [e_50_0, e_50_1, e_50_4, e_50_5, e_50_8, e_50_9, e_50_10, e_50_13, e_50_14, e_50_15, e_50_18, e_50_21, e_50_22, e_50_25, i_lit, i_add, i_mul, i_m1, i_lt, i_le, i_eq, i_cl, i_in, i_ltN, i_Nlt, i_leN, i_Nle, i_eN, i_Ne, i_inN, i_l1, i_l2, mj_cpok, mj_nn, reduceCtorEq, lg_self, Nat.not_lt_zero, Nat.zero_le, Nat.reduceEqDiff, Nat.reduceLT, Nat.reduceLeDiff, true_or, or_true, false_or, or_false, not_true_eq_false, not_false_eq_true, true_imp_iff, false_imp_iff, and_self, wrd, u2, and_true, true_and, and_false, false_and, and_self, ite_true, ite_false, reduceIte, mK_n]
  exact h
theorem c_47d {e j : Nat} (he : e ≤ 40) (hj : j ≤ 40) (h2 : wFI W 262 42 = Int32.ofNat e) {ru : Option Ptr} {m : Int32} (h : mR (d + 3) W 47 52 [some (vR (some (4, 0, 42))), some (vR ru), some (vI m), some (vI (Int32.ofNat j))] [] Q) :
    mR (d + 3) W 47 17 [some (vR (some (4, 0, 42))), some (vR ru), some (vI m), some (vI (Int32.ofNat j))] [] Q := by
  have h50 : mR (d + 2) W 50 0 [some (vR (some (4, 0, 42))), some (vI (Int32.ofNat 93))] [] (mK (d + 3) 47 49 52 [some (vR (some (4, 0, 42))), some (vR ru), some (vI m), some (vI (Int32.ofNat j))] [] Q) := by
    refine c_50d (d := d + 1) (by decide) he h2 ?_
    simp (disch := omega) only [mK_n]
    exact h
  rw [e_47_17]
  simp (disch := omega) only [e_47_18, e_47_20, e_47_23, e_47_24, e_47_46, e_47_47, e_47_49, i_lit, i_add, i_mul, i_m1, i_lt, i_le, i_eq, i_cl, i_in, i_ltN, i_Nlt, i_leN, i_Nle, i_eN, i_Ne, i_inN, i_l1, i_l2, mj_cpok, mj_nn, reduceCtorEq, lg_self, Nat.not_lt_zero, Nat.zero_le, Nat.reduceEqDiff, Nat.reduceLT, Nat.reduceLeDiff, true_or, or_true, false_or, or_false, not_true_eq_false, not_false_eq_true, true_imp_iff, false_imp_iff, and_self, wrd, u2, and_true, true_and, and_false, false_and, and_self, ite_true, ite_false, reduceIte]
  (repeat' (first | (with_reducible refine And.intro ?_ ?_) | (with_reducible intro _)))
  all_goals first
    | omega
    | exact h50
    | skip
  refine c_52d he h2 ?_
  simp (disch := omega) only [mK_v, e_47_27, i_lit, i_add, i_mul, i_m1, i_lt, i_le, i_eq, i_cl, i_in, i_ltN, i_Nlt, i_leN, i_Nle, i_eN, i_Ne, i_inN, i_l1, i_l2, mj_cpok, mj_nn, reduceCtorEq, lg_self, Nat.not_lt_zero, Nat.zero_le, Nat.reduceEqDiff, Nat.reduceLT, Nat.reduceLeDiff, true_or, or_true, false_or, or_false, not_true_eq_false, not_false_eq_true, true_imp_iff, false_imp_iff, and_self, wrd, u2, and_true, true_and, and_false, false_and, and_self, ite_true, ite_false, reduceIte]
  refine c_53 (c := 256) (by decide) (fun q => absurd q (by decide)) (fun _ => ?_)
  simp (disch := omega) only [mK_v, e_47_30, e_47_46, e_47_47, e_47_49, i_lit, i_add, i_mul, i_m1, i_lt, i_le, i_eq, i_cl, i_in, i_ltN, i_Nlt, i_leN, i_Nle, i_eN, i_Ne, i_inN, i_l1, i_l2, mj_cpok, mj_nn, reduceCtorEq, lg_self, Nat.not_lt_zero, Nat.zero_le, Nat.reduceEqDiff, Nat.reduceLT, Nat.reduceLeDiff, true_or, or_true, false_or, or_false, not_true_eq_false, not_false_eq_true, true_imp_iff, false_imp_iff, and_self, wrd, u2, and_true, true_and, and_false, false_and, and_self, ite_true, ite_false, reduceIte]
  (repeat' (first | (with_reducible refine And.intro ?_ ?_) | (with_reducible intro _)))
  all_goals first | omega | exact h50
theorem c_47l (G0 : Gr W) (hS : sgOk S) (hs0 : clS S W) {ru : Option Ptr} : ∀ (f : Nat) (V : MWd) (i j : Nat) (m : Int32), 40 ≤ i + f → i ≤ 40 → j + 1 ≤ i → Fr cF1 (fun _ => False) 0 0 W V → wFI V 262 42 = NN → wFI V 261 42 = Int32.ofNat i →
    (∀ U i' m' j', j' ≤ 40 → spT S f i m = .inr (i', m') → Fr cF1 (fun _ => False) 0 0 W U → wFI U 262 42 = NN → wFI U 261 42 = Int32.ofNat i' → mR (d + 3) U 47 52 [some (vR (some (4, 0, 42))), some (vR ru), some (vI m'), some (vI (Int32.ofNat j'))] [] Q) →
    (∀ U e m' j', j' ≤ 40 → spT S f i m = .inl e → Fr cF1 (fun _ => False) 0 0 W U → wFI U 262 42 = Int32.ofNat e → mR (d + 3) U 47 52 [some (vR (some (4, 0, 42))), some (vR ru), some (vI m'), some (vI (Int32.ofNat j'))] [] Q) →
    mR (d + 3) V 47 17 [some (vR (some (4, 0, 42))), some (vR ru), some (vI m), some (vI (Int32.ofNat j))] [] Q := by
  intro f
  induction f with
  | zero =>
    intro V i j m hf hi hj hF h2 h1 K1 K0
    have e : i = 40 := by omega
    subst e
    have h256 : S 40 = 256 := (hS 40).2 (by decide)
    have eT : spT S 0 40 m = .inl 40 := by unfold spT; rw [h256]; rfl
    have hs : clS S V := fun j hj => by rw [Fr_ai hF (by decide) (fun q => q)]; exact hs0 j hj
    have h50 : mR (d + 2) V 50 0 [some (vR (some (4, 0, 42))), some (vI (Int32.ofNat 93))] [] (mK (d + 3) 47 49 52 [some (vR (some (4, 0, 42))), some (vR ru), some (vI m), some (vI (Int32.ofNat j))] [] Q) := by
      refine c_50 (d := d + 1) (by decide) (Fr_Gr hF G0) hS hs h2 h1 hi (fun q => by rw [h256] at q; omega) (fun _ => ?_)
      have k := K0 (sFI V 262 42 (Int32.ofNat 40)) 40 m j (by omega) eT (Fr_sFI hF (by omega)) (by simp only [mj_cpok, mj_nn, reduceCtorEq, lg_self, Nat.not_lt_zero, Nat.zero_le, Nat.reduceEqDiff, Nat.reduceLT, Nat.reduceLeDiff, true_or, or_true, false_or, or_false, not_true_eq_false, not_false_eq_true, true_imp_iff, false_imp_iff, and_self, wrd, u2, and_true, true_and, and_false, false_and, and_self, ite_true, ite_false, reduceIte])
      simp (disch := omega) only [mK_n]
      exact k
    rw [e_47_17]
    simp (disch := omega) only [e_47_18, e_47_20, e_47_23, e_47_24, e_47_46, e_47_47, e_47_49, i_lit, i_add, i_mul, i_m1, i_lt, i_le, i_eq, i_cl, i_in, i_ltN, i_Nlt, i_leN, i_Nle, i_eN, i_Ne, i_inN, i_l1, i_l2, mj_cpok, mj_nn, reduceCtorEq, lg_self, Nat.not_lt_zero, Nat.zero_le, Nat.reduceEqDiff, Nat.reduceLT, Nat.reduceLeDiff, true_or, or_true, false_or, or_false, not_true_eq_false, not_false_eq_true, true_imp_iff, false_imp_iff, and_self, wrd, u2, and_true, true_and, and_false, false_and, and_self, ite_true, ite_false, reduceIte]
    (repeat' (first | (with_reducible refine And.intro ?_ ?_) | (with_reducible intro _)))
    all_goals first
      | omega
      | exact h50
      | skip
    refine c_52 (Fr_Gr hF G0) hS hs h2 h1 hi ?_
    simp (disch := omega) only [mK_v, e_47_27, i_lit, i_add, i_mul, i_m1, i_lt, i_le, i_eq, i_cl, i_in, i_ltN, i_Nlt, i_leN, i_Nle, i_eN, i_Ne, i_inN, i_l1, i_l2, mj_cpok, mj_nn, reduceCtorEq, lg_self, Nat.not_lt_zero, Nat.zero_le, Nat.reduceEqDiff, Nat.reduceLT, Nat.reduceLeDiff, true_or, or_true, false_or, or_false, not_true_eq_false, not_false_eq_true, true_imp_iff, false_imp_iff, and_self, wrd, u2, and_true, true_and, and_false, false_and, and_self, ite_true, ite_false, reduceIte]
    refine c_53 (hS 40).1 (fun q => by rw [h256] at q; omega) (fun _ => ?_)
    simp (disch := omega) only [mK_v, e_47_30, e_47_46, e_47_47, e_47_49, i_lit, i_add, i_mul, i_m1, i_lt, i_le, i_eq, i_cl, i_in, i_ltN, i_Nlt, i_leN, i_Nle, i_eN, i_Ne, i_inN, i_l1, i_l2, mj_cpok, mj_nn, reduceCtorEq, lg_self, Nat.not_lt_zero, Nat.zero_le, Nat.reduceEqDiff, Nat.reduceLT, Nat.reduceLeDiff, true_or, or_true, false_or, or_false, not_true_eq_false, not_false_eq_true, true_imp_iff, false_imp_iff, and_self, wrd, u2, and_true, true_and, and_false, false_and, and_self, ite_true, ite_false, reduceIte]
    (repeat' (first | (with_reducible refine And.intro ?_ ?_) | (with_reducible intro _)))
    all_goals first | omega | exact h50
  | succ f ih =>
    intro V i j m hf hi hj hF h2 h1 K1 K0
    have hs : clS S V := fun j hj => by rw [Fr_ai hF (by decide) (fun q => q)]; exact hs0 j hj
    have hb := hS i
    have G := Fr_Gr hF G0
    unfold spT at K1 K0
    rw [e_47_17]
    by_cases c0 : isL (S i)
    · rw [if_pos c0, spR_s] at K1 K0
      simp (disch := omega) only [e_47_18, e_47_20, e_47_23, e_47_24, e_47_46, e_47_47, e_47_49, i_lit, i_add, i_mul, i_m1, i_lt, i_le, i_eq, i_cl, i_in, i_ltN, i_Nlt, i_leN, i_Nle, i_eN, i_Ne, i_inN, i_l1, i_l2, mj_cpok, mj_nn, reduceCtorEq, lg_self, Nat.not_lt_zero, Nat.zero_le, Nat.reduceEqDiff, Nat.reduceLT, Nat.reduceLeDiff, true_or, or_true, false_or, or_false, not_true_eq_false, not_false_eq_true, true_imp_iff, false_imp_iff, and_self, wrd, u2, and_true, true_and, and_false, false_and, and_self, ite_true, ite_false, reduceIte]
      (repeat' (first | (with_reducible refine And.intro ?_ ?_) | (with_reducible intro _)))
      all_goals try omega
      refine c_52 G hS hs h2 h1 hi ?_
      simp (disch := omega) only [mK_v, e_47_27, i_lit, i_add, i_mul, i_m1, i_lt, i_le, i_eq, i_cl, i_in, i_ltN, i_Nlt, i_leN, i_Nle, i_eN, i_Ne, i_inN, i_l1, i_l2, mj_cpok, mj_nn, reduceCtorEq, lg_self, Nat.not_lt_zero, Nat.zero_le, Nat.reduceEqDiff, Nat.reduceLT, Nat.reduceLeDiff, true_or, or_true, false_or, or_false, not_true_eq_false, not_false_eq_true, true_imp_iff, false_imp_iff, and_self, wrd, u2, and_true, true_and, and_false, false_and, and_self, ite_true, ite_false, reduceIte]
      refine c_53 hb.1 (fun _ => ?_) (fun q => absurd c0 q)
      simp (disch := omega) only [mK_v, e_47_30, e_47_33, e_47_34, e_47_35, i_lit, i_add, i_mul, i_m1, i_lt, i_le, i_eq, i_cl, i_in, i_ltN, i_Nlt, i_leN, i_Nle, i_eN, i_Ne, i_inN, i_l1, i_l2, mj_cpok, mj_nn, reduceCtorEq, lg_self, Nat.not_lt_zero, Nat.zero_le, Nat.reduceEqDiff, Nat.reduceLT, Nat.reduceLeDiff, true_or, or_true, false_or, or_false, not_true_eq_false, not_false_eq_true, true_imp_iff, false_imp_iff, and_self, wrd, u2, and_true, true_and, and_false, false_and, and_self, ite_true, ite_false, reduceIte]
      (repeat' (first | (with_reducible refine And.intro ?_ ?_) | (with_reducible intro _)))
      all_goals try omega
      refine c_48 (d := d) G hS hs h2 h1 hi (fun U i' m' hsp hFU u2 u1 => ?_) (fun U e x hsp hFU u2 => ?_)
      · rw [hsp] at K1 K0
        dsimp only at K1 K0
        obtain ⟨a1, a2, -⟩ := (sp1_ok hS hi).2 i' m' hsp
        have nn := ih U i' (j + 1) (m ||| m') (by omega) a2 (by omega) (Fr_weak (Fr_trans hF hFU) (fun _ _ q => q) (fun _ q => q) (Nat.le_refl _) (Nat.le_refl _)) u2 u1 K1 K0
        simp (disch := omega) only [mK_v, e_47_38, e_47_39, e_47_40, e_47_43, i_lit, i_add, i_mul, i_m1, i_lt, i_le, i_eq, i_cl, i_in, i_ltN, i_Nlt, i_leN, i_Nle, i_eN, i_Ne, i_inN, i_l1, i_l2, mj_cpok, mj_nn, reduceCtorEq, lg_self, Nat.not_lt_zero, Nat.zero_le, Nat.reduceEqDiff, Nat.reduceLT, Nat.reduceLeDiff, true_or, or_true, false_or, or_false, not_true_eq_false, not_false_eq_true, true_imp_iff, false_imp_iff, and_self, wrd, u2, and_true, true_and, and_false, false_and, and_self, ite_true, ite_false, reduceIte]
        exact nn
      · rw [hsp] at K0
        dsimp only at K0
        have he := (sp1_ok hS hi).1 e hsp
        have nn := c_47d (d := d) (ru := ru) (m := m ||| x) (j := j + 1) he (by omega) u2 (K0 U e (m ||| x) (j + 1) (by omega) rfl (Fr_weak (Fr_trans hF hFU) (fun _ _ q => q) (fun _ q => q) (Nat.le_refl _) (Nat.le_refl _)) u2)
        simp (disch := omega) only [mK_v, e_47_38, e_47_39, e_47_40, e_47_43, i_lit, i_add, i_mul, i_m1, i_lt, i_le, i_eq, i_cl, i_in, i_ltN, i_Nlt, i_leN, i_Nle, i_eN, i_Ne, i_inN, i_l1, i_l2, mj_cpok, mj_nn, reduceCtorEq, lg_self, Nat.not_lt_zero, Nat.zero_le, Nat.reduceEqDiff, Nat.reduceLT, Nat.reduceLeDiff, true_or, or_true, false_or, or_false, not_true_eq_false, not_false_eq_true, true_imp_iff, false_imp_iff, and_self, wrd, u2, and_true, true_and, and_false, false_and, and_self, ite_true, ite_false, reduceIte]
        exact nn
    · rw [if_neg c0] at K1 K0
      have h50 : mR (d + 2) V 50 0 [some (vR (some (4, 0, 42))), some (vI (Int32.ofNat 93))] [] (mK (d + 3) 47 49 52 [some (vR (some (4, 0, 42))), some (vR ru), some (vI m), some (vI (Int32.ofNat j))] [] Q) := by
        refine c_50 (d := d + 1) (by decide) G hS hs h2 h1 hi (fun c1 => ?_) (fun c1 => ?_)
        · rw [if_pos c1] at K1
          have k := K1 (sFI V 261 42 (Int32.ofNat (i + 1))) (i + 1) m j (by omega) rfl (Fr_sFI hF (by omega)) (by simp only [mj_cpok, mj_nn, reduceCtorEq, lg_self, Nat.not_lt_zero, Nat.zero_le, Nat.reduceEqDiff, Nat.reduceLT, Nat.reduceLeDiff, true_or, or_true, false_or, or_false, not_true_eq_false, not_false_eq_true, true_imp_iff, false_imp_iff, and_self, wrd, u2, and_true, true_and, and_false, false_and, and_self, ite_true, ite_false, reduceIte]; exact h2) (by simp only [mj_cpok, mj_nn, reduceCtorEq, lg_self, Nat.not_lt_zero, Nat.zero_le, Nat.reduceEqDiff, Nat.reduceLT, Nat.reduceLeDiff, true_or, or_true, false_or, or_false, not_true_eq_false, not_false_eq_true, true_imp_iff, false_imp_iff, and_self, wrd, u2, and_true, true_and, and_false, false_and, and_self, ite_true, ite_false, reduceIte])
          simp (disch := omega) only [mK_n]
          exact k
        · rw [if_neg c1] at K0
          have k := K0 (sFI V 262 42 (Int32.ofNat i)) i m j (by omega) rfl (Fr_sFI hF (by omega)) (by simp only [mj_cpok, mj_nn, reduceCtorEq, lg_self, Nat.not_lt_zero, Nat.zero_le, Nat.reduceEqDiff, Nat.reduceLT, Nat.reduceLeDiff, true_or, or_true, false_or, or_false, not_true_eq_false, not_false_eq_true, true_imp_iff, false_imp_iff, and_self, wrd, u2, and_true, true_and, and_false, false_and, and_self, ite_true, ite_false, reduceIte])
          simp (disch := omega) only [mK_n]
          exact k
      simp (disch := omega) only [e_47_18, e_47_20, e_47_23, e_47_24, e_47_46, e_47_47, e_47_49, i_lit, i_add, i_mul, i_m1, i_lt, i_le, i_eq, i_cl, i_in, i_ltN, i_Nlt, i_leN, i_Nle, i_eN, i_Ne, i_inN, i_l1, i_l2, mj_cpok, mj_nn, reduceCtorEq, lg_self, Nat.not_lt_zero, Nat.zero_le, Nat.reduceEqDiff, Nat.reduceLT, Nat.reduceLeDiff, true_or, or_true, false_or, or_false, not_true_eq_false, not_false_eq_true, true_imp_iff, false_imp_iff, and_self, wrd, u2, and_true, true_and, and_false, false_and, and_self, ite_true, ite_false, reduceIte]
      (repeat' (first | (with_reducible refine And.intro ?_ ?_) | (with_reducible intro _)))
      all_goals first
        | omega
        | exact h50
        | skip
      refine c_52 G hS hs h2 h1 hi ?_
      simp (disch := omega) only [mK_v, e_47_27, i_lit, i_add, i_mul, i_m1, i_lt, i_le, i_eq, i_cl, i_in, i_ltN, i_Nlt, i_leN, i_Nle, i_eN, i_Ne, i_inN, i_l1, i_l2, mj_cpok, mj_nn, reduceCtorEq, lg_self, Nat.not_lt_zero, Nat.zero_le, Nat.reduceEqDiff, Nat.reduceLT, Nat.reduceLeDiff, true_or, or_true, false_or, or_false, not_true_eq_false, not_false_eq_true, true_imp_iff, false_imp_iff, and_self, wrd, u2, and_true, true_and, and_false, false_and, and_self, ite_true, ite_false, reduceIte]
      refine c_53 hb.1 (fun q => absurd q c0) (fun _ => ?_)
      simp (disch := omega) only [mK_v, e_47_30, e_47_46, e_47_47, e_47_49, i_lit, i_add, i_mul, i_m1, i_lt, i_le, i_eq, i_cl, i_in, i_ltN, i_Nlt, i_leN, i_Nle, i_eN, i_Ne, i_inN, i_l1, i_l2, mj_cpok, mj_nn, reduceCtorEq, lg_self, Nat.not_lt_zero, Nat.zero_le, Nat.reduceEqDiff, Nat.reduceLT, Nat.reduceLeDiff, true_or, or_true, false_or, or_false, not_true_eq_false, not_false_eq_true, true_imp_iff, false_imp_iff, and_self, wrd, u2, and_true, true_and, and_false, false_and, and_self, ite_true, ite_false, reduceIte]
      (repeat' (first | (with_reducible refine And.intro ?_ ?_) | (with_reducible intro _)))
      all_goals first | omega | exact h50
end CL
