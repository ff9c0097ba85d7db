/-! scan: one step, and the class's run of them. -/
def putT (F : Nat → Int32) (c : Nat) (a b e f : Int32) : Nat → Int32 := fun i => if i = 4 * c then a else if i = 4 * c + 1 then b else if i = 4 * c + 2 then e else if i = 4 * c + 3 then f else F i
abbrev scS : Type := Nat × Nat × Nat × Nat × Nat × (Nat → Int32)
/-- where the token of a rule is cut that is met from p on by L letters -/
noncomputable def ctT (w : MWd) (r : Nat) (B : Nat → Nat) (p L : Nat) : Nat := if wAI w 133 r = Int32.ofNat 1 then
    @dite Nat (∃ k, 1 ≤ k ∧ k ≤ L ∧ (∃ np tp, RuleA w r np tp ∧ cutRw w r np L (fun i => B (p + i) - 97) k ∧ ∀ j, k < j → j ≤ L → ¬ cutRw w r np L (fun i => B (p + i) - 97) j)) (Classical.propDecidable _) (fun h => Classical.choose h) (fun _ => L)
  else L
noncomputable def scStep (w : MWd) (n : Nat) (B : Nat → Nat) (NM : Nat → Nat) (MV AN : Nat → Nat → Option Nat) (z : scS) : Bool × scS :=
  match pcs (NM z.1) (MV z.1) (AN z.1) B z.2.1 (n - z.2.1) with
  | (none, _) => if z.2.2.1 = 500 then (false, z) else (true, (z.1, z.2.1 + 1, z.2.2.1 + 1, z.2.2.2.1 + 1, z.2.2.2.2.1, putT z.2.2.2.2.2 z.2.2.1 NN (Int32.ofNat z.2.1) (Int32.ofNat 1) (Int32.ofNat z.1)))
  | (some r, L) => if wAI w 132 r = Int32.ofNat 1 then (true, ((wAI w 131 r).toNatClampNeg, z.2.1 + ctT w r B z.2.1 L, z.2.2.1, z.2.2.2.1, z.2.2.2.2.1 + 1, z.2.2.2.2.2))
    else if z.2.2.1 = 500 then (false, z) else (true, ((wAI w 131 r).toNatClampNeg, z.2.1 + ctT w r B z.2.1 L, z.2.2.1 + 1, z.2.2.2.1, z.2.2.2.2.1, putT z.2.2.2.2.2 z.2.2.1 (Int32.ofNat r) (Int32.ofNat z.2.1) (Int32.ofNat (ctT w r B z.2.1 L)) (Int32.ofNat z.1)))
noncomputable def scRun (w : MWd) (n : Nat) (B : Nat → Nat) (NM : Nat → Nat) (MV AN : Nat → Nat → Option Nat) : Nat → scS → scS
  | 0, z => z
  | f + 1, z => if z.2.1 < n then (match scStep w n B NM MV AN z with
      | (false, z') => z'
      | (true, z') => scRun w n B NM MV AN f z') else z
section SC
variable {d : Nat} {w : MWd} {Q : MRes → MWd → Prop}
theorem s_8 {c p md k : Nat} {x : Int32} (G : Gr w) (hc : c ≤ 500) (h2 : wFI w 2 57 = Int32.ofNat c) (h4 : wFI w 4 57 = Int32.ofNat p) (h3 : wFI w 3 57 = Int32.ofNat md)
    (K1 : ∀ W, c < 500 → Fr (fun k a => k = 2 ∧ a = 57) (fun a => a = 58) 0 0 w W → wFI W 2 57 = Int32.ofNat (c + 1) → (∀ F : Nat → Int32, (∀ i, i < 4 * c → wAI w 58 i = F i) → ∀ i, i < 4 * (c + 1) → wAI W 58 i = putT F c x (Int32.ofNat p) (Int32.ofNat k) (Int32.ofNat md) i) → Q (.inl (some (vI (Int32.ofNat 1)))) W)
    (K0 : c = 500 → Q (.inl (some (vI (Int32.ofNat 0)))) w) :
    mR d w 8 0 [some (vR (some (0, 0, 57))), some (vI x), some (vI (Int32.ofNat k)), none] [] Q := by
  by_cases h5 : c = 500
  · have k0 := K0 h5
    subst h5
    simp (disch := omega) only [e_8_0, e_8_1, e_8_4, e_8_5, e_8_6, e_8_7, e_8_8, e_8_11, e_8_12, e_8_15, e_8_18, e_8_19, e_8_20, e_8_21, e_8_24, e_8_25, e_8_26, e_8_27, e_8_28, e_8_31, e_8_32, e_8_33, e_8_34, e_8_35, e_8_38, e_8_39, e_8_40, e_8_43, e_8_44, e_8_45, e_8_46, e_8_47, e_8_48, e_8_49, e_8_52, e_8_53, e_8_54, e_8_55, e_8_56, e_8_59, e_8_60, e_8_61, e_8_62, e_8_65, e_8_66, e_8_67, e_8_70, e_8_71, i_lit, i_add, i_mul, i_m1, i_lt, i_le, i_eq, i_cl, i_in, i_ltN, i_Nlt, i_leN, i_Nle, i_eN, i_Ne, i_inN, i_l1, i_l2, mj_cpok, mj_nn, reduceCtorEq, lg_self, Nat.not_lt_zero, Nat.zero_le, Nat.reduceEqDiff, Nat.reduceLT, Nat.reduceLeDiff, true_or, or_true, false_or, or_false, not_true_eq_false, not_false_eq_true, true_imp_iff, false_imp_iff, and_self, wrd, u2, and_true, true_and, and_false, false_and, and_self, ite_true, ite_false, reduceIte, h2]
    (repeat' (first | (with_reducible refine And.intro ?_ ?_) | (with_reducible intro _)))
    all_goals first | omega | exact k0
  · have k1 := K1 (sFI (sAI (sAI (sAI (sAI w 58 (c * 4) x) 58 (c * 4 + 1) (Int32.ofNat p)) 58 (c * 4 + 2) (Int32.ofNat k)) 58 (c * 4 + 3) (Int32.ofNat md)) 2 57 (Int32.ofNat (c + 1))) (by omega)
      (Fr_sFI (Fr_sAI (Fr_sAI (Fr_sAI (Fr_sAI Fr_refl (Or.inl rfl)) (Or.inl rfl)) (Or.inl rfl)) (Or.inl rfl)) (Or.inl ⟨rfl, rfl⟩)) (by simp only [mj_cpok, mj_nn, reduceCtorEq, lg_self, Nat.not_lt_zero, Nat.zero_le, Nat.reduceEqDiff, Nat.reduceLT, Nat.reduceLeDiff, true_or, or_true, false_or, or_false, not_true_eq_false, not_false_eq_true, true_imp_iff, false_imp_iff, and_self, wrd, u2, and_true, true_and, and_false, false_and, and_self, ite_true, ite_false, reduceIte]) (fun F hF i hi => by
        simp only [mj_cpok, mj_nn, reduceCtorEq, lg_self, Nat.not_lt_zero, Nat.zero_le, Nat.reduceEqDiff, Nat.reduceLT, Nat.reduceLeDiff, true_or, or_true, false_or, or_false, not_true_eq_false, not_false_eq_true, true_imp_iff, false_imp_iff, and_self, wrd, u2, and_true, true_and, and_false, false_and, and_self, ite_true, ite_false, reduceIte]
        unfold putT
        rw [Nat.mul_comm c 4]
        by_cases i3 : i = 4 * c + 3
        · rw [if_pos i3, if_neg (by omega), if_neg (by omega), if_neg (by omega), if_pos i3]
        · rw [if_neg i3]
          by_cases i2 : i = 4 * c + 2
          · rw [if_pos i2, if_neg (by omega), if_neg (by omega), if_pos i2]
          · rw [if_neg i2]
            by_cases i1 : i = 4 * c + 1
            · rw [if_pos i1, if_neg (by omega), if_pos i1]
            · rw [if_neg i1]
              by_cases i0 : i = 4 * c
              · rw [if_pos i0, if_pos i0]
              · rw [if_neg i0, if_neg i0, if_neg i1, if_neg i2, if_neg i3]; exact hF i (by omega))
    simp (disch := omega) only [e_8_0, e_8_1, e_8_4, e_8_5, e_8_6, e_8_7, e_8_8, e_8_11, e_8_12, e_8_15, e_8_18, e_8_19, e_8_20, e_8_21, e_8_24, e_8_25, e_8_26, e_8_27, e_8_28, e_8_31, e_8_32, e_8_33, e_8_34, e_8_35, e_8_38, e_8_39, e_8_40, e_8_43, e_8_44, e_8_45, e_8_46, e_8_47, e_8_48, e_8_49, e_8_52, e_8_53, e_8_54, e_8_55, e_8_56, e_8_59, e_8_60, e_8_61, e_8_62, e_8_65, e_8_66, e_8_67, e_8_70, e_8_71, i_lit, i_add, i_mul, i_m1, i_lt, i_le, i_eq, i_cl, i_in, i_ltN, i_Nlt, i_leN, i_Nle, i_eN, i_Ne, i_inN, i_l1, i_l2, mj_cpok, mj_nn, reduceCtorEq, lg_self, Nat.not_lt_zero, Nat.zero_le, Nat.reduceEqDiff, Nat.reduceLT, Nat.reduceLeDiff, true_or, or_true, false_or, or_false, not_true_eq_false, not_false_eq_true, true_imp_iff, false_imp_iff, and_self, wrd, u2, and_true, true_and, and_false, false_and, and_self, ite_true, ite_false, reduceIte, g_0 G, h2, h4, h3]
    (repeat' (first | (with_reducible refine And.intro ?_ ?_) | (with_reducible intro _)))
    all_goals first | omega | exact k1
theorem ctT_eq {r np tp p L k : Nat} {B u : Nat → Nat} (hA : RuleA w r np tp) (hl1 : wAI w 133 r = Int32.ofNat 1) (hu : ∀ i, i < L → B (p + i) = 97 + u i) (h1 : 1 ≤ k) (hk : k ≤ L) (hc : cutRw w r np L u k) (hno : ∀ j, k < j → j ≤ L → ¬ cutRw w r np L u j) : ctT w r B p L = k := by
  have hcong : ∀ (np' : Nat) j, 1 ≤ j → j ≤ L → (cutRw w r np' L (fun i => B (p + i) - 97) j ↔ cutRw w r np' L u j) := by
    intro np' j hj1 hj2
    have t1 : ∀ i q, i < L → (tR (fun i => B (p + i) - 97) (rFi w r) (rFo w r np') (rLt w r np') i q ↔ tR u (rFi w r) (rFo w r np') (rLt w r np') i q) := by
      intro i
      induction i with
      | zero =>
        intro q hi
        unfold tR
        rw [show B (p + 0) - 97 = u 0 by have := hu 0 hi; omega]
      | succ i ih =>
        intro q hi
        unfold tR
        rw [show B (p + (i + 1)) - 97 = u (i + 1) by have := hu (i + 1) hi; omega]
        refine and_congr_left fun _ => exists_congr fun t => and_congr_left fun _ => ih t (by omega)
    have t2 : ∀ i q, j + i < L → (flR (fun i => B (p + i) - 97) (rAF w r) (rFo w r np') (rLt w r np') j i q ↔ flR u (rAF w r) (rFo w r np') (rLt w r np') j i q) := by
      intro i
      induction i with
      | zero =>
        intro q hi
        unfold flR
        rw [show B (p + j) - 97 = u j by have := hu j (by omega); omega]
      | succ i ih =>
        intro q hi
        unfold flR
        rw [show B (p + (j + i + 1)) - 97 = u (j + i + 1) by have := hu (j + i + 1) (by omega); omega]
        refine and_congr_left fun _ => exists_congr fun t => and_congr_left fun _ => ih t (by omega)
    unfold cutRw cutR
    refine and_congr (exists_congr fun q => and_congr_left fun _ => t1 _ q (by omega)) (and_congr_right fun _ => imp_congr_right fun hlt => exists_congr fun q => and_congr_left fun _ => t2 _ q (by omega))
  have hex : ∃ k, 1 ≤ k ∧ k ≤ L ∧ (∃ np tp, RuleA w r np tp ∧ cutRw w r np L (fun i => B (p + i) - 97) k ∧ ∀ j, k < j → j ≤ L → ¬ cutRw w r np L (fun i => B (p + i) - 97) j) :=
    ⟨k, h1, hk, np, tp, hA, (hcong np k h1 hk).mpr hc, fun j hj1 hj2 q => hno j hj1 hj2 ((hcong np j (by omega) hj2).mp q)⟩
  unfold ctT
  rw [if_pos hl1, dif_pos hex]
  obtain ⟨c1, c2, np', tp', c3, c4, c5⟩ := Classical.choose_spec hex
  have hnp : np' = np := by
    have e1 : wAI w 134 r = Int32.ofNat np' := c3.2.2.2.2.2.2.2.1
    have e2 : wAI w 134 r = Int32.ofNat np := hA.2.2.2.2.2.2.2.1
    rw [e1, i_eq (by have := c3.1; omega) (by have := hA.1; omega)] at e2
    exact e2
  subst hnp
  rcases Nat.lt_trichotomy (Classical.choose hex) k with h9 | h9 | h9
  · exact absurd ((hcong np' k h1 hk).mpr hc) (c5 k h9 hk)
  · exact h9
  · exact absurd ((hcong np' _ c1 c2).mp c4) (hno _ h9 c2)
end SC
