/-! build: the class's sets. -/
def folU (fo : Nat → Int32) (x : Int32) : Nat → Int32
  | 0 => Int32.ofNat 0
  | p + 1 => if bt x p = true then folU fo x p ||| fo p else folU fo x p
def bhF (w : MWd) (nr m s : Nat) (x : Nat → Int32) (r : Nat) : Int32 := if r < nr ∧ wFI w 322 (6 + 3 * r) = Int32.ofNat m then (if s = 0 then wFI w 328 (6 + 3 * r) else folU (wAI w (7 + 3 * r)) (x r) 30) else Int32.ofNat 0
def nxF (w : MWd) (nr m s : Nat) (x : Nat → Int32) (l r : Nat) : Int32 := if r < nr ∧ l < 8 then bhF w nr m s x r &&& wAI w (8 + 3 * r) l else Int32.ofNat 0
def ansF (w : MWd) (nr m : Nat) (x : Nat → Int32) : Nat → Option Nat
  | 0 => none
  | r + 1 => match ansF w nr m x r with
    | some q => some q
    | none => if r < nr ∧ wFI w 322 (6 + 3 * r) = Int32.ofNat m ∧ ¬ (x r &&& wFI w 329 (6 + 3 * r)) = Int32.ofNat 0 then some r else none
/-- the rules stand as they stood -/
def ruEq (w w' : MWd) : Prop := wFI w' 385 4 = wFI w 385 4 ∧ (∀ k a, 6 ≤ a → a < 42 → wFI w' k a = wFI w k a) ∧ (∀ a, 6 ≤ a → a < 42 → wAI w' a = wAI w a)
theorem ruEq_bh {w w' : MWd} {nr m s r : Nat} {x : Nat → Int32} (h : ruEq w w') (hnr : nr ≤ 12) : bhF w' nr m s x r = bhF w nr m s x r := by
  unfold bhF
  by_cases hr : r < nr
  · rw [h.2.1 322 _ (by omega) (by omega), h.2.1 328 _ (by omega) (by omega), h.2.2 (7 + 3 * r) (by omega) (by omega)]
  · rw [if_neg (fun q => hr q.1), if_neg (fun q => hr q.1)]
theorem ruEq_nx {w w' : MWd} {nr m : Nat} (h : ruEq w w') (hnr : nr ≤ 12) : nxF w' nr m = nxF w nr m := by
  funext s x l r
  unfold nxF
  by_cases hr : r < nr
  · rw [ruEq_bh h hnr, h.2.2 (8 + 3 * r) (by omega) (by omega)]
  · rw [if_neg (fun q => hr q.1), if_neg (fun q => hr q.1)]
theorem ruEq_an {w w' : MWd} {nr m : Nat} {x : Nat → Int32} (h : ruEq w w') (hnr : nr ≤ 12) : ∀ r, ansF w' nr m x r = ansF w nr m x r
  | 0 => rfl
  | r + 1 => by
    unfold ansF
    rw [ruEq_an h hnr r]
    by_cases hr : r < nr
    · rw [h.2.1 322 _ (by omega) (by omega), h.2.1 329 _ (by omega) (by omega)]
    · rw [if_neg (fun q => hr q.1), if_neg (fun q => hr q.1)]
theorem ansF_lt {w : MWd} {nr m : Nat} {x : Nat → Int32} : ∀ {r q : Nat}, ansF w nr m x r = some q → q < r ∧ q < nr ∧ wFI w 322 (6 + 3 * q) = Int32.ofNat m ∧ ¬ (x q &&& wFI w 329 (6 + 3 * q)) = Int32.ofNat 0
  | 0, _, h => by cases h
  | r + 1, q, h => by
    unfold ansF at h
    cases he : ansF w nr m x r with
    | some q' =>
      rw [he] at h
      cases h
      have := ansF_lt he
      exact ⟨by omega, this.2⟩
    | none =>
      rw [he] at h
      by_cases hc : r < nr ∧ wFI w 322 (6 + 3 * r) = Int32.ofNat m ∧ ¬ (x r &&& wFI w 329 (6 + 3 * r)) = Int32.ofNat 0
      · dsimp only at h
        rw [if_pos hc] at h
        cases h
        exact ⟨by omega, hc⟩
      · dsimp only at h
        rw [if_neg hc] at h
        cases h
section CS
variable {d : Nat} {w : MWd} {Q : MRes → MWd → Prop}
theorem s_66 {r : Nat} {x : Int32} (G : Gr w) (hr : r < 12) (h : Q (.inl (some (vI (folU (wAI w (7 + 3 * r)) x 30)))) w) : mR d w 66 0 [some (vR (some (5, 0, 6 + 3 * r))), some (vI x), none, none] [] Q := by
  have loop : ∀ (f p : Nat) (y : Int32), p + f = 30 → y = folU (wAI w (7 + 3 * r)) x p → mR d w 66 4 [some (vR (some (5, 0, 6 + 3 * r))), some (vI x), some (vI y), some (vI (Int32.ofNat p))] [] Q := by
    intro f
    induction f with
    | zero =>
      intro p y hp hy
      have he : p = 30 := by omega
      subst he
      rw [e_66_4]
      simp (disch := omega) only [e_66_0, e_66_1, e_66_2, e_66_3, e_66_5, e_66_7, e_66_10, e_66_11, e_66_12, e_66_13, e_66_14, e_66_15, e_66_18, e_66_19, e_66_20, e_66_23, e_66_24, e_66_25, e_66_26, e_66_27, e_66_30, e_66_33, e_66_34, i_lit, i_add, i_mul, i_m1, i_lt, i_le, i_eq, i_cl, i_in, i_ltN, i_Nlt, i_leN, i_Nle, i_eN, i_Ne, i_inN, i_l1, i_l2, mj_cpok, mj_nn, reduceCtorEq, lg_self, Nat.not_lt_zero, Nat.zero_le, Nat.reduceEqDiff, Nat.reduceLT, Nat.reduceLeDiff, true_or, or_true, false_or, or_false, not_true_eq_false, not_false_eq_true, true_imp_iff, false_imp_iff, and_self, wrd, u2, and_true, true_and, and_false, false_and, and_self, ite_true, ite_false, reduceIte]
      (repeat' (first | (with_reducible refine And.intro ?_ ?_) | (with_reducible intro _)))
      all_goals try omega
      rw [hy]; exact h
    | succ f ih =>
      intro p y hp hy
      rw [e_66_4]
      simp (disch := omega) only [e_66_0, e_66_1, e_66_2, e_66_3, e_66_5, e_66_7, e_66_10, e_66_11, e_66_12, e_66_13, e_66_14, e_66_15, e_66_18, e_66_19, e_66_20, e_66_23, e_66_24, e_66_25, e_66_26, e_66_27, e_66_30, e_66_33, e_66_34, i_lit, i_add, i_mul, i_m1, i_lt, i_le, i_eq, i_cl, i_in, i_ltN, i_Nlt, i_leN, i_Nle, i_eN, i_Ne, i_inN, i_l1, i_l2, mj_cpok, mj_nn, reduceCtorEq, lg_self, Nat.not_lt_zero, Nat.zero_le, Nat.reduceEqDiff, Nat.reduceLT, Nat.reduceLeDiff, true_or, or_true, false_or, or_false, not_true_eq_false, not_false_eq_true, true_imp_iff, false_imp_iff, and_self, wrd, u2, and_true, true_and, and_false, false_and, and_self, ite_true, ite_false, reduceIte, ts_u0, g_320 G hr]
      (repeat' (first | (with_reducible refine And.intro ?_ ?_) | (with_reducible intro _)))
      all_goals try omega
      · rename_i hb
        refine ih (p + 1) _ (by omega) ?_
        rw [hy]
        show _ = if bt x p = true then _ else _
        rw [hb, if_neg Bool.false_ne_true]
      · rename_i hb
        refine ih (p + 1) _ (by omega) ?_
        rw [hy]
        show _ = if bt x p = true then _ else _
        rw [if_pos (by cases hx : bt x p <;> simp_all)]
  rw [e_66_0, e_66_1, e_66_2, e_66_3]
  exact loop 30 0 _ (by omega) rfl
/-- a store that differs from another one only in some of the maker's rows -/
abbrev mkFr (R : Nat → Prop) (w w' : MWd) : Prop := Fr (fun k a => k = 201 ∧ a = 47) R 0 0 w w'
theorem mkFr_ru {R : Nat → Prop} {w w' : MWd} (h : mkFr R w w') (hR : ∀ a, 6 ≤ a → a < 42 → ¬ R a) : ruEq w w' :=
  ⟨Fr_fi h (by decide) (by omega), fun k a h1 h2 => Fr_fi h (by omega) (by omega), fun a h1 h2 => Fr_ai h (by omega) (hR a h1 h2)⟩
theorem s_29 {nr m s : Nat} (G : Gr w) (hnr : nr ≤ 12) (h1 : wFI w 385 4 = Int32.ofNat nr) (hm : m < 4) (hs : s < 100)
    (K : ∀ w', Fr (fun _ _ => False) (fun a => a = 50 ∨ a = 51) 0 0 w w' → (∀ r, r < 12 → wAI w' 51 r = bhF w nr m s (fun q => wAI w 48 (12 * s + q)) r) → wAI w' 50 s = en (ansF w nr m (fun q => wAI w 48 (12 * s + q)) 12) → (∀ j, j ≠ s → wAI w' 50 j = wAI w 50 j) → Q (.inl none) w') :
    mR (d + 3) w 29 0 [some (vR (some (3, 0, 47))), some (vR (some (6, 0, 4))), some (vI (Int32.ofNat s)), some (vI (Int32.ofNat m)), none, none, none] [] Q := by
  have loop : ∀ (f r : Nat) (w' : MWd) (l5 l6 : Option MV), r + f = 12 → Fr (fun _ _ => False) (fun a => a = 50 ∨ a = 51) 0 0 w w' → (∀ q, q < r → wAI w' 51 q = bhF w nr m s (fun q => wAI w 48 (12 * s + q)) q) → wAI w' 50 s = en (ansF w nr m (fun q => wAI w 48 (12 * s + q)) r) → (∀ j, j ≠ s → wAI w' 50 j = wAI w 50 j) →
      mR (d + 3) w' 29 10 [some (vR (some (3, 0, 47))), some (vR (some (6, 0, 4))), some (vI (Int32.ofNat s)), some (vI (Int32.ofNat m)), some (vI (Int32.ofNat r)), l5, l6] [] Q := by
    intro f
    induction f with
    | zero =>
      intro r w' l5 l6 hr hF g1 g2 g3
      have he : r = 12 := by omega
      subst he
      rw [e_29_10]
      simp (disch := omega) only [e_29_0, e_29_1, e_29_4, e_29_5, e_29_6, e_29_7, e_29_8, e_29_12, e_29_14, e_29_17, e_29_18, e_29_20, e_29_21, e_29_24, e_29_26, e_29_27, e_29_30, e_29_32, e_29_33, e_29_34, e_29_36, e_29_39, e_29_40, e_29_43, e_29_44, e_29_46, e_29_47, e_29_49, e_29_50, e_29_51, e_29_53, e_29_54, e_29_57, e_29_59, e_29_60, e_29_63, e_29_65, e_29_68, e_29_71, e_29_73, e_29_75, e_29_78, e_29_79, e_29_80, e_29_83, e_29_84, e_29_85, e_29_86, e_29_89, e_29_91, e_29_93, e_29_96, e_29_97, e_29_100, e_29_101, e_29_104, e_29_105, e_29_107, e_29_108, e_29_111, e_29_114, i_lit, i_add, i_mul, i_m1, i_lt, i_le, i_eq, i_cl, i_in, i_ltN, i_Nlt, i_leN, i_Nle, i_eN, i_Ne, i_inN, i_l1, i_l2, mj_cpok, mj_nn, reduceCtorEq, lg_self, Nat.not_lt_zero, Nat.zero_le, Nat.reduceEqDiff, Nat.reduceLT, Nat.reduceLeDiff, true_or, or_true, false_or, or_false, not_true_eq_false, not_false_eq_true, true_imp_iff, false_imp_iff, and_self, wrd, u2, and_true, true_and, and_false, false_and, and_self, ite_true, ite_false, reduceIte]
      (repeat' (first | (with_reducible refine And.intro ?_ ?_) | (with_reducible intro _)))
      all_goals try omega
      exact K w' hF g1 g2 g3
    | succ f ih =>
      intro r w' l5 l6 hr hF g1 g2 g3
      have G' := Fr_Gr hF G
      have a1 : wFI w' 385 4 = Int32.ofNat nr := (Fr_fi hF (by decide) (fun q => q)).trans h1
      have a2 : wAI w' 48 = wAI w 48 := Fr_ai hF (by decide) (by omega)
      have a3 : ∀ k, wFI w' k (6 + 3 * r) = wFI w k (6 + 3 * r) := fun k => Fr_fi hF (by omega) (fun q => q)
      have a4 : wAI w' (7 + 3 * r) = wAI w (7 + 3 * r) := Fr_ai hF (by omega) (by omega)
      rw [e_29_10]
      by_cases hc : r < nr ∧ wFI w 322 (6 + 3 * r) = Int32.ofNat m
      · obtain ⟨hc1, hc2⟩ := hc
        have fin : ∀ (v : Int32) (l5 l6 : Option MV), v = bhF w nr m s (fun q => wAI w 48 (12 * s + q)) r →
            ((¬ wAI w' 50 s = NN ∨ wAI w 48 (12 * s + r) &&& wFI w 329 (6 + 3 * r) = Int32.ofNat 0) → mR (d + 3) (sAI (sAI w' 51 r (Int32.ofNat 0)) 51 r v) 29 10 [some (vR (some (3, 0, 47))), some (vR (some (6, 0, 4))), some (vI (Int32.ofNat s)), some (vI (Int32.ofNat m)), some (vI (Int32.ofNat (r + 1))), l5, l6] [] Q) ∧
            (wAI w' 50 s = NN → ¬ wAI w 48 (12 * s + r) &&& wFI w 329 (6 + 3 * r) = Int32.ofNat 0 → mR (d + 3) (sAI (sAI (sAI w' 51 r (Int32.ofNat 0)) 51 r v) 50 s (Int32.ofNat r)) 29 10 [some (vR (some (3, 0, 47))), some (vR (some (6, 0, 4))), some (vI (Int32.ofNat s)), some (vI (Int32.ofNat m)), some (vI (Int32.ofNat (r + 1))), l5, l6] [] Q) := by
          intro v l5 l6 hv
          have hsm : ∀ q, ansF w nr m (fun q => wAI w 48 (12 * s + q)) r = some q → q < 2147483648 := fun q hq => by have := ansF_lt hq; omega
          refine ⟨fun hx => ?_, fun hx hy => ?_⟩
          · refine ih (r + 1) _ l5 l6 (by omega) (Fr_sAI (Fr_sAI hF (Or.inl (Or.inr rfl))) (Or.inl (Or.inr rfl))) (fun q hq => ?_) ?_ (fun j hj => ?_)
            · by_cases hqr : q = r
              · subst hqr; simp only [mj_cpok, mj_nn, reduceCtorEq, lg_self, Nat.not_lt_zero, Nat.zero_le, Nat.reduceEqDiff, Nat.reduceLT, Nat.reduceLeDiff, true_or, or_true, false_or, or_false, not_true_eq_false, not_false_eq_true, true_imp_iff, false_imp_iff, and_self, wrd, u2, and_true, true_and, and_false, false_and, and_self, ite_true, ite_false, reduceIte]; exact hv
              · simp only [mj_cpok, mj_nn, reduceCtorEq, lg_self, Nat.not_lt_zero, Nat.zero_le, Nat.reduceEqDiff, Nat.reduceLT, Nat.reduceLeDiff, true_or, or_true, false_or, or_false, not_true_eq_false, not_false_eq_true, true_imp_iff, false_imp_iff, and_self, wrd, u2, and_true, true_and, and_false, false_and, and_self, ite_true, ite_false, reduceIte, hqr]; exact g1 q (by omega)
            · simp only [mj_cpok, mj_nn, reduceCtorEq, lg_self, Nat.not_lt_zero, Nat.zero_le, Nat.reduceEqDiff, Nat.reduceLT, Nat.reduceLeDiff, true_or, or_true, false_or, or_false, not_true_eq_false, not_false_eq_true, true_imp_iff, false_imp_iff, and_self, wrd, u2, and_true, true_and, and_false, false_and, and_self, ite_true, ite_false, reduceIte]
              rw [g2]
              congr 1
              show _ = (match ansF w nr m (fun q => wAI w 48 (12 * s + q)) r with | some q => some q | none => _)
              cases he : ansF w nr m (fun q => wAI w 48 (12 * s + q)) r with
              | some q => rfl
              | none =>
                rw [he] at g2
                rcases hx with hx | hx
                · exact absurd g2 hx
                · exact (if_neg (fun q => q.2.2 hx)).symm
            · simp only [mj_cpok, mj_nn, reduceCtorEq, lg_self, Nat.not_lt_zero, Nat.zero_le, Nat.reduceEqDiff, Nat.reduceLT, Nat.reduceLeDiff, true_or, or_true, false_or, or_false, not_true_eq_false, not_false_eq_true, true_imp_iff, false_imp_iff, and_self, wrd, u2, and_true, true_and, and_false, false_and, and_self, ite_true, ite_false, reduceIte]; exact g3 j hj
          · refine ih (r + 1) _ l5 l6 (by omega) (Fr_sAI (Fr_sAI (Fr_sAI hF (Or.inl (Or.inr rfl))) (Or.inl (Or.inr rfl))) (Or.inl (Or.inl rfl))) (fun q hq => ?_) ?_ (fun j hj => ?_)
            · by_cases hqr : q = r
              · subst hqr; simp only [mj_cpok, mj_nn, reduceCtorEq, lg_self, Nat.not_lt_zero, Nat.zero_le, Nat.reduceEqDiff, Nat.reduceLT, Nat.reduceLeDiff, true_or, or_true, false_or, or_false, not_true_eq_false, not_false_eq_true, true_imp_iff, false_imp_iff, and_self, wrd, u2, and_true, true_and, and_false, false_and, and_self, ite_true, ite_false, reduceIte]; exact hv
              · simp only [mj_cpok, mj_nn, reduceCtorEq, lg_self, Nat.not_lt_zero, Nat.zero_le, Nat.reduceEqDiff, Nat.reduceLT, Nat.reduceLeDiff, true_or, or_true, false_or, or_false, not_true_eq_false, not_false_eq_true, true_imp_iff, false_imp_iff, and_self, wrd, u2, and_true, true_and, and_false, false_and, and_self, ite_true, ite_false, reduceIte, hqr]; exact g1 q (by omega)
            · simp only [mj_cpok, mj_nn, reduceCtorEq, lg_self, Nat.not_lt_zero, Nat.zero_le, Nat.reduceEqDiff, Nat.reduceLT, Nat.reduceLeDiff, true_or, or_true, false_or, or_false, not_true_eq_false, not_false_eq_true, true_imp_iff, false_imp_iff, and_self, wrd, u2, and_true, true_and, and_false, false_and, and_self, ite_true, ite_false, reduceIte]
              rw [g2, en_N hsm] at hx
              show _ = en (match ansF w nr m (fun q => wAI w 48 (12 * s + q)) r with | some q => some q | none => _)
              rw [hx]
              show _ = en (if _ then some r else none)
              rw [if_pos ⟨hc1, hc2, hy⟩]; rfl
            · simp only [mj_cpok, mj_nn, reduceCtorEq, lg_self, Nat.not_lt_zero, Nat.zero_le, Nat.reduceEqDiff, Nat.reduceLT, Nat.reduceLeDiff, true_or, or_true, false_or, or_false, not_true_eq_false, not_false_eq_true, true_imp_iff, false_imp_iff, and_self, wrd, u2, and_true, true_and, and_false, false_and, and_self, ite_true, ite_false, reduceIte, hj]; exact g3 j hj
        have hcl : Int32.ofNat (12 * s + r) = Int32.ofNat (s * 12 + r) := by rw [Nat.mul_comm 12 s]
        have fin0 := fin (wFI w 328 (6 + 3 * r))
        have fin1 := fin (folU (wAI w (7 + 3 * r)) (wAI w 48 (12 * s + r)) 30)
        rw [Nat.mul_comm 12 s] at fin0 fin1
        have hb0 : s = 0 → wFI w 328 (6 + 3 * r) = bhF w nr m s (fun q => wAI w 48 (s * 12 + q)) r := by
          intro h0
          unfold bhF
          rw [if_pos ⟨hc1, hc2⟩, if_pos h0]
        have hb1 : ¬ s = 0 → folU (wAI w (7 + 3 * r)) (wAI w 48 (s * 12 + r)) 30 = bhF w nr m s (fun q => wAI w 48 (s * 12 + q)) r := by
          intro h0
          unfold bhF
          rw [if_pos ⟨hc1, hc2⟩, if_neg h0]
        simp (disch := omega) only [e_29_0, e_29_1, e_29_4, e_29_5, e_29_6, e_29_7, e_29_8, e_29_12, e_29_14, e_29_17, e_29_18, e_29_20, e_29_21, e_29_24, e_29_26, e_29_27, e_29_30, e_29_32, e_29_33, e_29_34, e_29_36, e_29_39, e_29_40, e_29_43, e_29_44, e_29_46, e_29_47, e_29_49, e_29_50, e_29_51, e_29_53, e_29_54, e_29_57, e_29_59, e_29_60, e_29_63, e_29_65, e_29_68, e_29_71, e_29_73, e_29_75, e_29_78, e_29_79, e_29_80, e_29_83, e_29_84, e_29_85, e_29_86, e_29_89, e_29_91, e_29_93, e_29_96, e_29_97, e_29_100, e_29_101, e_29_104, e_29_105, e_29_107, e_29_108, e_29_111, e_29_114, e_74_0, e_74_1, e_74_2, e_74_5, e_74_6, e_74_7, e_74_10, e_74_11, e_74_14, e_74_15, e_74_18, e_74_19, e_74_22, e_74_23, e_73_0, e_73_1, e_73_4, e_73_5, e_73_6, e_73_9, e_73_12, e_73_13, e_73_15, e_73_18, e_73_19, e_73_22, e_73_23, e_73_24, e_73_27, e_73_28, i_lit, i_add, i_mul, i_m1, i_lt, i_le, i_eq, i_cl, i_in, i_ltN, i_Nlt, i_leN, i_Nle, i_eN, i_Ne, i_inN, i_l1, i_l2, mj_cpok, mj_nn, reduceCtorEq, lg_self, Nat.not_lt_zero, Nat.zero_le, Nat.reduceEqDiff, Nat.reduceLT, Nat.reduceLeDiff, true_or, or_true, false_or, or_false, not_true_eq_false, not_false_eq_true, true_imp_iff, false_imp_iff, and_self, wrd, u2, and_true, true_and, and_false, false_and, and_self, ite_true, ite_false, reduceIte, mK_v, g_384 G', g_row G' (show r < 12 by omega), a1, a2, a3, hc2, g_195 G', g_192 G', g_194 G']
        (repeat' (first | (with_reducible refine And.intro ?_ ?_) | (with_reducible intro _)))
        all_goals try omega
        · rename_i h0
          refine s_66 (w := sAI w' 51 r (Int32.ofNat 0)) (G_sAI G') (by omega) ?_
          have a5 : wAI (sAI w' 51 r (Int32.ofNat 0)) (7 + 3 * r) = wAI w (7 + 3 * r) := by
            rw [← a4]
            funext j
            show u2 (wAI w') 51 r _ (7 + 3 * r) j = _
            exact if_neg (fun q => by omega)
          rw [a5]
          have fin2 := fin1 (some (vR (some (5, 0, 6 + 3 * r)))) (some (vI (wAI w 48 (s * 12 + r)))) (hb1 h0)
          simp (disch := omega) only [e_29_0, e_29_1, e_29_4, e_29_5, e_29_6, e_29_7, e_29_8, e_29_12, e_29_14, e_29_17, e_29_18, e_29_20, e_29_21, e_29_24, e_29_26, e_29_27, e_29_30, e_29_32, e_29_33, e_29_34, e_29_36, e_29_39, e_29_40, e_29_43, e_29_44, e_29_46, e_29_47, e_29_49, e_29_50, e_29_51, e_29_53, e_29_54, e_29_57, e_29_59, e_29_60, e_29_63, e_29_65, e_29_68, e_29_71, e_29_73, e_29_75, e_29_78, e_29_79, e_29_80, e_29_83, e_29_84, e_29_85, e_29_86, e_29_89, e_29_91, e_29_93, e_29_96, e_29_97, e_29_100, e_29_101, e_29_104, e_29_105, e_29_107, e_29_108, e_29_111, e_29_114, i_lit, i_add, i_mul, i_m1, i_lt, i_le, i_eq, i_cl, i_in, i_ltN, i_Nlt, i_leN, i_Nle, i_eN, i_Ne, i_inN, i_l1, i_l2, mj_cpok, mj_nn, reduceCtorEq, lg_self, Nat.not_lt_zero, Nat.zero_le, Nat.reduceEqDiff, Nat.reduceLT, Nat.reduceLeDiff, true_or, or_true, false_or, or_false, not_true_eq_false, not_false_eq_true, true_imp_iff, false_imp_iff, and_self, wrd, u2, and_true, true_and, and_false, false_and, and_self, ite_true, ite_false, reduceIte, mK_v, g_195 G', g_194 G', a3]
          (repeat' (first | (with_reducible refine And.intro ?_ ?_) | (with_reducible intro _)))
          all_goals try omega
          · rename_i hx; exact fin2.1 (Or.inl hx)
          · rename_i hx hy; exact fin2.1 (Or.inr hy)
          · rename_i hx hy; exact fin2.2 hx hy
        · rename_i h0 hx; exact (fin0 _ _ (hb0 h0)).1 (Or.inl hx)
        · rename_i h0 hx hy; exact (fin0 _ _ (hb0 h0)).1 (Or.inr hy)
        · rename_i h0 hx hy; exact (fin0 _ _ (hb0 h0)).2 hx hy
      · have nob : bhF w nr m s (fun q => wAI w 48 (12 * s + q)) r = Int32.ofNat 0 := if_neg hc
        have noa : ansF w nr m (fun q => wAI w 48 (12 * s + q)) (r + 1) = ansF w nr m (fun q => wAI w 48 (12 * s + q)) r := by
          show (match ansF w nr m (fun q => wAI w 48 (12 * s + q)) r with | some q => some q | none => _) = _
          cases ansF w nr m (fun q => wAI w 48 (12 * s + q)) r with
          | some q => rfl
          | none => exact if_neg (fun q => hc ⟨q.1, q.2.1⟩)
        have fin3 : ∀ l5 l6 : Option MV, mR (d + 3) (sAI w' 51 r (Int32.ofNat 0)) 29 10 [some (vR (some (3, 0, 47))), some (vR (some (6, 0, 4))), some (vI (Int32.ofNat s)), some (vI (Int32.ofNat m)), some (vI (Int32.ofNat (r + 1))), l5, l6] [] Q := by
          intro l5 l6
          refine ih (r + 1) _ l5 l6 (by omega) (Fr_sAI hF (Or.inl (Or.inr rfl))) (fun q hq => ?_) ?_ (fun j hj => ?_)
          · by_cases hqr : q = r
            · subst hqr; simp only [mj_cpok, mj_nn, reduceCtorEq, lg_self, Nat.not_lt_zero, Nat.zero_le, Nat.reduceEqDiff, Nat.reduceLT, Nat.reduceLeDiff, true_or, or_true, false_or, or_false, not_true_eq_false, not_false_eq_true, true_imp_iff, false_imp_iff, and_self, wrd, u2, and_true, true_and, and_false, false_and, and_self, ite_true, ite_false, reduceIte]; exact nob.symm
            · simp only [mj_cpok, mj_nn, reduceCtorEq, lg_self, Nat.not_lt_zero, Nat.zero_le, Nat.reduceEqDiff, Nat.reduceLT, Nat.reduceLeDiff, true_or, or_true, false_or, or_false, not_true_eq_false, not_false_eq_true, true_imp_iff, false_imp_iff, and_self, wrd, u2, and_true, true_and, and_false, false_and, and_self, ite_true, ite_false, reduceIte, hqr]; exact g1 q (by omega)
          · simp only [mj_cpok, mj_nn, reduceCtorEq, lg_self, Nat.not_lt_zero, Nat.zero_le, Nat.reduceEqDiff, Nat.reduceLT, Nat.reduceLeDiff, true_or, or_true, false_or, or_false, not_true_eq_false, not_false_eq_true, true_imp_iff, false_imp_iff, and_self, wrd, u2, and_true, true_and, and_false, false_and, and_self, ite_true, ite_false, reduceIte]
            rw [noa]; exact g2
          · simp only [mj_cpok, mj_nn, reduceCtorEq, lg_self, Nat.not_lt_zero, Nat.zero_le, Nat.reduceEqDiff, Nat.reduceLT, Nat.reduceLeDiff, true_or, or_true, false_or, or_false, not_true_eq_false, not_false_eq_true, true_imp_iff, false_imp_iff, and_self, wrd, u2, and_true, true_and, and_false, false_and, and_self, ite_true, ite_false, reduceIte]; exact g3 j hj
        by_cases hr1 : r < nr
        · have hc2 : (wFI w 322 (6 + 3 * r) = Int32.ofNat m) = False := eq_false (fun q => hc ⟨hr1, q⟩)
          simp (disch := omega) only [e_29_0, e_29_1, e_29_4, e_29_5, e_29_6, e_29_7, e_29_8, e_29_12, e_29_14, e_29_17, e_29_18, e_29_20, e_29_21, e_29_24, e_29_26, e_29_27, e_29_30, e_29_32, e_29_33, e_29_34, e_29_36, e_29_39, e_29_40, e_29_43, e_29_44, e_29_46, e_29_47, e_29_49, e_29_50, e_29_51, e_29_53, e_29_54, e_29_57, e_29_59, e_29_60, e_29_63, e_29_65, e_29_68, e_29_71, e_29_73, e_29_75, e_29_78, e_29_79, e_29_80, e_29_83, e_29_84, e_29_85, e_29_86, e_29_89, e_29_91, e_29_93, e_29_96, e_29_97, e_29_100, e_29_101, e_29_104, e_29_105, e_29_107, e_29_108, e_29_111, e_29_114, e_74_0, e_74_1, e_74_2, e_74_5, e_74_6, e_74_7, e_74_10, e_74_11, e_74_14, e_74_15, e_74_18, e_74_19, e_74_22, e_74_23, e_73_0, e_73_1, e_73_4, e_73_5, e_73_6, e_73_9, e_73_12, e_73_13, e_73_15, e_73_18, e_73_19, e_73_22, e_73_23, e_73_24, e_73_27, e_73_28, i_lit, i_add, i_mul, i_m1, i_lt, i_le, i_eq, i_cl, i_in, i_ltN, i_Nlt, i_leN, i_Nle, i_eN, i_Ne, i_inN, i_l1, i_l2, mj_cpok, mj_nn, reduceCtorEq, lg_self, Nat.not_lt_zero, Nat.zero_le, Nat.reduceEqDiff, Nat.reduceLT, Nat.reduceLeDiff, true_or, or_true, false_or, or_false, not_true_eq_false, not_false_eq_true, true_imp_iff, false_imp_iff, and_self, wrd, u2, and_true, true_and, and_false, false_and, and_self, ite_true, ite_false, reduceIte, mK_v, g_384 G', g_row G' (show r < 12 by omega), a1, a3, hc2, g_195 G']
          (repeat' (first | (with_reducible refine And.intro ?_ ?_) | (with_reducible intro _)))
          all_goals try omega
          exact fin3 _ _
        · simp (disch := omega) only [e_29_0, e_29_1, e_29_4, e_29_5, e_29_6, e_29_7, e_29_8, e_29_12, e_29_14, e_29_17, e_29_18, e_29_20, e_29_21, e_29_24, e_29_26, e_29_27, e_29_30, e_29_32, e_29_33, e_29_34, e_29_36, e_29_39, e_29_40, e_29_43, e_29_44, e_29_46, e_29_47, e_29_49, e_29_50, e_29_51, e_29_53, e_29_54, e_29_57, e_29_59, e_29_60, e_29_63, e_29_65, e_29_68, e_29_71, e_29_73, e_29_75, e_29_78, e_29_79, e_29_80, e_29_83, e_29_84, e_29_85, e_29_86, e_29_89, e_29_91, e_29_93, e_29_96, e_29_97, e_29_100, e_29_101, e_29_104, e_29_105, e_29_107, e_29_108, e_29_111, e_29_114, e_74_0, e_74_1, e_74_2, e_74_5, e_74_6, e_74_7, e_74_10, e_74_11, e_74_14, e_74_15, e_74_18, e_74_19, e_74_22, e_74_23, e_73_0, e_73_1, e_73_4, e_73_5, e_73_6, e_73_9, e_73_12, e_73_13, e_73_15, e_73_18, e_73_19, e_73_22, e_73_23, e_73_24, e_73_27, e_73_28, i_lit, i_add, i_mul, i_m1, i_lt, i_le, i_eq, i_cl, i_in, i_ltN, i_Nlt, i_leN, i_Nle, i_eN, i_Ne, i_inN, i_l1, i_l2, mj_cpok, mj_nn, reduceCtorEq, lg_self, Nat.not_lt_zero, Nat.zero_le, Nat.reduceEqDiff, Nat.reduceLT, Nat.reduceLeDiff, true_or, or_true, false_or, or_false, not_true_eq_false, not_false_eq_true, true_imp_iff, false_imp_iff, and_self, wrd, u2, and_true, true_and, and_false, false_and, and_self, ite_true, ite_false, reduceIte, mK_v, a1, g_195 G']
          (repeat' (first | (with_reducible refine And.intro ?_ ?_) | (with_reducible intro _)))
          all_goals try omega
          exact fin3 _ _
  simp (disch := omega) only [e_29_0, e_29_1, e_29_4, e_29_5, e_29_6, e_29_7, e_29_8, e_29_12, e_29_14, e_29_17, e_29_18, e_29_20, e_29_21, e_29_24, e_29_26, e_29_27, e_29_30, e_29_32, e_29_33, e_29_34, e_29_36, e_29_39, e_29_40, e_29_43, e_29_44, e_29_46, e_29_47, e_29_49, e_29_50, e_29_51, e_29_53, e_29_54, e_29_57, e_29_59, e_29_60, e_29_63, e_29_65, e_29_68, e_29_71, e_29_73, e_29_75, e_29_78, e_29_79, e_29_80, e_29_83, e_29_84, e_29_85, e_29_86, e_29_89, e_29_91, e_29_93, e_29_96, e_29_97, e_29_100, e_29_101, e_29_104, e_29_105, e_29_107, e_29_108, e_29_111, e_29_114, i_lit, i_add, i_mul, i_m1, i_lt, i_le, i_eq, i_cl, i_in, i_ltN, i_Nlt, i_leN, i_Nle, i_eN, i_Ne, i_inN, i_l1, i_l2, mj_cpok, mj_nn, reduceCtorEq, lg_self, Nat.not_lt_zero, Nat.zero_le, Nat.reduceEqDiff, Nat.reduceLT, Nat.reduceLeDiff, true_or, or_true, false_or, or_false, not_true_eq_false, not_false_eq_true, true_imp_iff, false_imp_iff, and_self, wrd, u2, and_true, true_and, and_false, false_and, and_self, ite_true, ite_false, reduceIte, mK_v, g_194 G]
  refine ⟨hs, ?_⟩
  refine loop 12 0 _ _ _ (by omega) (Fr_sAI Fr_refl (Or.inl (Or.inl rfl))) (fun q hq => absurd hq (Nat.not_lt_zero q)) ?_ (fun j hj => ?_)
  · simp only [mj_cpok, mj_nn, reduceCtorEq, lg_self, Nat.not_lt_zero, Nat.zero_le, Nat.reduceEqDiff, Nat.reduceLT, Nat.reduceLeDiff, true_or, or_true, false_or, or_false, not_true_eq_false, not_false_eq_true, true_imp_iff, false_imp_iff, and_self, wrd, u2, and_true, true_and, and_false, false_and, and_self, ite_true, ite_false, reduceIte]; rfl
  · simp only [mj_cpok, mj_nn, reduceCtorEq, lg_self, Nat.not_lt_zero, Nat.zero_le, Nat.reduceEqDiff, Nat.reduceLT, Nat.reduceLeDiff, true_or, or_true, false_or, or_false, not_true_eq_false, not_false_eq_true, true_imp_iff, false_imp_iff, and_self, wrd, u2, and_true, true_and, and_false, false_and, and_self, ite_true, ite_false, reduceIte, hj]
end CS
