/-! addRule: the reference's reader, its small methods. -/
abbrev rF : Nat → Nat → Prop := fun k a => a = 128 ∧ 658 ≤ k ∧ k ≤ 662
abbrev rA : Nat → Prop := fun a => a = 134 ∨ a = 135 ∨ a = 136
def rfU (W V : MWd) (r : Nat) : Prop := (∀ j, j < r → wAI V 134 j = wAI W 134 j) ∧ ∀ j, j < 30 * r → wAI V 135 j = wAI W 135 j ∧ wAI V 136 j = wAI W 136 j
def rfR (W : MWd) (r i np dep : Nat) (fo lt : Nat → Int32) : Prop := wFI W 658 128 = Int32.ofNat i ∧ wFI W 659 128 = Int32.ofNat dep ∧ wFI W 644 128 = Int32.ofNat r ∧ wAI W 134 r = Int32.ofNat np ∧ ∀ p, p < np → wAI W 136 (30 * r + p) = fo p ∧ wAI W 135 (30 * r + p) = lt p
def rfT (W : MWd) (n : Nat) (B : Nat → Nat) : Prop := n ≤ 1000 ∧ wFI W 642 128 = Int32.ofNat n ∧ ∀ j, j < n → B j < 256 ∧ wAI W 129 j = Int32.ofNat (B j)
abbrev rfThr (Q : MRes → MWd → Prop) (W : MWd) : Prop := Q (.inr (3, some (9, 0, wN W))) (mj_wrong W 128)
def rfE (Q : MRes → MWd → Prop) (W : MWd) (r e : Nat) : Prop := ∀ V a, Fr rF rA 1 7 W V → rfU W V r → wFI V 582 a = Int32.ofNat e → Q (.inr (3, some (9, 0, a))) V
theorem rfU_refl {W : MWd} {r : Nat} : rfU W W r := ⟨fun _ _ => rfl, fun _ _ => ⟨rfl, rfl⟩⟩
theorem rfU_tr {W U V : MWd} {r : Nat} (h : rfU W U r) (h' : rfU U V r) : rfU W V r := ⟨fun j hj => (h'.1 j hj).trans (h.1 j hj), fun j hj => ⟨(h'.2 j hj).1.trans (h.2 j hj).1, (h'.2 j hj).2.trans (h.2 j hj).2⟩⟩
theorem rfU_Fr {W V : MWd} {r x y : Nat} {F : Nat → Nat → Prop} {R : Nat → Prop} (h : Fr F R x y W V) (h1 : ¬ R 134 ∧ ¬ R 135 ∧ ¬ R 136) : rfU W V r := by
  unfold rfU
  rw [Fr_ai h (by decide) h1.1, Fr_ai h (by decide) h1.2.1, Fr_ai h (by decide) h1.2.2]
  exact rfU_refl
theorem rfT_Fr {W V : MWd} {x y n : Nat} {B : Nat → Nat} {F : Nat → Nat → Prop} {R : Nat → Prop} (h : Fr F R x y W V) (hF : ¬ F 642 128) (hR : ¬ R 129) (hT : rfT W n B) : rfT V n B := by
  unfold rfT
  rw [Fr_fi h (by decide) hF, Fr_ai h (by decide) hR]
  exact hT
theorem rfE_thr {Q : MRes → MWd → Prop} {W V : MWd} {r e : Nat} (G : Gr W) (K : rfE Q W r e) (h : Fr rF rA 0 0 W V) (hU : rfU W V r) (h1 : wFI V 658 128 = Int32.ofNat e) : rfThr Q V := by
  have hw : 167 ≤ wN W := G.1
  have hv : 167 ≤ wN V := Nat.le_trans hw h.1
  have F1 : Fr rF rA 1 7 W (mj_wrong V 128) := Fr_sFI (Fr_nwO hw h) (Or.inr hv)
  refine K (mj_wrong V 128) (wN V) F1 ⟨fun j hj => ?_, fun j hj => ?_⟩ ?_
  · exact hU.1 j hj
  · exact hU.2 j hj
  · show u2 (wFI (nwO V 7)) 582 (wN V) (wFI V 658 128) 582 (wN V) = _
    unfold u2
    rw [if_pos ⟨rfl, rfl⟩, h1]
section RF
variable {d : Nat} {W : MWd} {n i r : Nat} {B : Nat → Nat} {Q : MRes → MWd → Prop}
theorem r_115 (G : Gr W) (hT : rfT W n B) (h1 : wFI W 658 128 = Int32.ofNat i) (hi : i ≤ 40) (Kt : i = 40 ∧ 40 < n → rfThr Q W) (Kv : ¬ (i = 40 ∧ 40 < n) → Q (.inl (some (vI (sgI (sgn n B i))))) W) : mR d W 115 0 [some (vR (some (10, 0, 128)))] [] Q := by
  obtain ⟨hn, h2, h3⟩ := hT
  by_cases c : i = 40 ∧ 40 < n
  · obtain ⟨rfl, c2⟩ := c
    have k0 := Kt ⟨rfl, c2⟩
    simp (disch := omega) only [e_115_0, e_115_1, e_115_4, e_115_5, e_115_8, e_115_11, e_115_12, e_115_15, e_115_17, e_115_20, e_115_32, e_115_33, e_115_36, e_115_37, e_115_40, e_115_43, e_115_44, e_115_47, e_115_48, e_115_51, e_115_52, e_115_55, e_115_56, i_lit, i_add, i_mul, i_m1, i_lt, i_le, i_eq, i_cl, i_in, i_ltN, i_Nlt, i_leN, i_Nle, i_eN, i_Ne, i_inN, i_l1, i_l2, mj_cpok, mj_nn, reduceCtorEq, lg_self, Nat.not_lt_zero, Nat.zero_le, Nat.reduceEqDiff, Nat.reduceLT, Nat.reduceLeDiff, true_or, or_true, false_or, or_false, not_true_eq_false, not_false_eq_true, true_imp_iff, false_imp_iff, and_self, wrd, u2, and_true, true_and, and_false, false_and, and_self, ite_true, ite_false, reduceIte, h1, h2]
    (repeat' (first | (with_reducible refine And.intro ?_ ?_) | (with_reducible intro _)))
    all_goals first | omega | exact k0
  · have k0 := Kv c
    by_cases c2 : i < n
    · have e : sgI (sgn n B i) = Int32.ofNat (B i) := by
        have := (h3 i c2).1
        unfold sgn
        rw [if_pos ⟨c2, by omega⟩, sgI_n (by omega)]
      have e3 := (h3 i c2).2
      rw [e] at k0
      simp (disch := omega) only [e_115_0, e_115_1, e_115_4, e_115_5, e_115_8, e_115_11, e_115_12, e_115_15, e_115_17, e_115_20, e_115_32, e_115_33, e_115_36, e_115_37, e_115_40, e_115_43, e_115_44, e_115_47, e_115_48, e_115_51, e_115_52, e_115_55, e_115_56, i_lit, i_add, i_mul, i_m1, i_lt, i_le, i_eq, i_cl, i_in, i_ltN, i_Nlt, i_leN, i_Nle, i_eN, i_Ne, i_inN, i_l1, i_l2, mj_cpok, mj_nn, reduceCtorEq, lg_self, Nat.not_lt_zero, Nat.zero_le, Nat.reduceEqDiff, Nat.reduceLT, Nat.reduceLeDiff, true_or, or_true, false_or, or_false, not_true_eq_false, not_false_eq_true, true_imp_iff, false_imp_iff, and_self, wrd, u2, and_true, true_and, and_false, false_and, and_self, ite_true, ite_false, reduceIte, h1, h2, g_641 G, e3]
      (repeat' (first | (with_reducible refine And.intro ?_ ?_) | (with_reducible intro _)))
      all_goals first | omega | exact k0
    · have e : sgI (sgn n B i) = NN := by
        unfold sgn
        rw [if_neg (fun q => c2 q.1)]; rfl
      rw [e] at k0
      simp (disch := omega) only [e_115_0, e_115_1, e_115_4, e_115_5, e_115_8, e_115_11, e_115_12, e_115_15, e_115_17, e_115_20, e_115_32, e_115_33, e_115_36, e_115_37, e_115_40, e_115_43, e_115_44, e_115_47, e_115_48, e_115_51, e_115_52, e_115_55, e_115_56, i_lit, i_add, i_mul, i_m1, i_lt, i_le, i_eq, i_cl, i_in, i_ltN, i_Nlt, i_leN, i_Nle, i_eN, i_Ne, i_inN, i_l1, i_l2, mj_cpok, mj_nn, reduceCtorEq, lg_self, Nat.not_lt_zero, Nat.zero_le, Nat.reduceEqDiff, Nat.reduceLT, Nat.reduceLeDiff, true_or, or_true, false_or, or_false, not_true_eq_false, not_false_eq_true, true_imp_iff, false_imp_iff, and_self, wrd, u2, and_true, true_and, and_false, false_and, and_self, ite_true, ite_false, reduceIte, h1, h2]
      (repeat' (first | (with_reducible refine And.intro ?_ ?_) | (with_reducible intro _)))
      all_goals first | omega | exact k0
theorem r_116 {c : Nat} (hc : c ≤ 256) (h1 : isL c → Q (.inl (some (vI (Int32.ofNat 1)))) W) (h0 : ¬ isL c → Q (.inl (some (vI (Int32.ofNat 0)))) W) : mR (d + 1) W 116 0 [some (vI (sgI c))] [] Q := by
  by_cases h : isL c
  · have k := h1 h
    rw [sgI_n (by omega)]
    simp (disch := omega) only [e_116_0, e_116_1, e_116_3, e_116_5, e_116_8, e_111_0, e_111_1, e_111_2, e_111_5, e_111_6, e_111_7, e_111_10, e_111_11, e_111_14, e_111_15, i_lit, i_add, i_mul, i_m1, i_lt, i_le, i_eq, i_cl, i_in, i_ltN, i_Nlt, i_leN, i_Nle, i_eN, i_Ne, i_inN, i_l1, i_l2, mj_cpok, mj_nn, reduceCtorEq, lg_self, Nat.not_lt_zero, Nat.zero_le, Nat.reduceEqDiff, Nat.reduceLT, Nat.reduceLeDiff, true_or, or_true, false_or, or_false, not_true_eq_false, not_false_eq_true, true_imp_iff, false_imp_iff, and_self, wrd, u2, and_true, true_and, and_false, false_and, and_self, ite_true, ite_false, reduceIte, mK_v]
    (repeat' (first | (with_reducible refine And.intro ?_ ?_) | (with_reducible intro _)))
    all_goals first | omega | exact k
  · have k := h0 h
    by_cases h' : c = 256
    · subst h'
      rw [sgI_e]
      simp (disch := omega) only [e_116_0, e_116_1, e_116_3, e_116_5, e_116_8, e_111_0, e_111_1, e_111_2, e_111_5, e_111_6, e_111_7, e_111_10, e_111_11, e_111_14, e_111_15, i_lit, i_add, i_mul, i_m1, i_lt, i_le, i_eq, i_cl, i_in, i_ltN, i_Nlt, i_leN, i_Nle, i_eN, i_Ne, i_inN, i_l1, i_l2, mj_cpok, mj_nn, reduceCtorEq, lg_self, Nat.not_lt_zero, Nat.zero_le, Nat.reduceEqDiff, Nat.reduceLT, Nat.reduceLeDiff, true_or, or_true, false_or, or_false, not_true_eq_false, not_false_eq_true, true_imp_iff, false_imp_iff, and_self, wrd, u2, and_true, true_and, and_false, false_and, and_self, ite_true, ite_false, reduceIte, mK_v]
      (repeat' (first | (with_reducible refine And.intro ?_ ?_) | (with_reducible intro _)))
      all_goals first | omega | exact k
    · rw [sgI_n (by omega)]
      simp (disch := omega) only [e_116_0, e_116_1, e_116_3, e_116_5, e_116_8, e_111_0, e_111_1, e_111_2, e_111_5, e_111_6, e_111_7, e_111_10, e_111_11, e_111_14, e_111_15, i_lit, i_add, i_mul, i_m1, i_lt, i_le, i_eq, i_cl, i_in, i_ltN, i_Nlt, i_leN, i_Nle, i_eN, i_Ne, i_inN, i_l1, i_l2, mj_cpok, mj_nn, reduceCtorEq, lg_self, Nat.not_lt_zero, Nat.zero_le, Nat.reduceEqDiff, Nat.reduceLT, Nat.reduceLeDiff, true_or, or_true, false_or, or_false, not_true_eq_false, not_false_eq_true, true_imp_iff, false_imp_iff, and_self, wrd, u2, and_true, true_and, and_false, false_and, and_self, ite_true, ite_false, reduceIte, mK_v]
      (repeat' (first | (with_reducible refine And.intro ?_ ?_) | (with_reducible intro _)))
      all_goals first | omega | exact k
theorem sgn40 : sgn n B 40 = 256 := if_neg (fun q => absurd q.2 (by decide))
theorem r_124 (G : Gr W) (hT : rfT W n B) (h1 : wFI W 658 128 = Int32.ofNat i) (hi : i ≤ 40) (K1 : isL (sgn n B i) → Q (.inl (some (vI (Int32.ofNat (sgn n B i - 97))))) (sFI W 658 128 (Int32.ofNat (i + 1)))) (K0 : ¬ isL (sgn n B i) → rfThr Q W) :
    mR (d + 2) W 124 0 [some (vR (some (10, 0, 128))), none] [] Q := by
  have hS : sgOk (sgn n B) := sgn_ok (fun i hi => (hT.2.2 i hi).1)
  have hb := hS i
  simp (disch := omega) only [e_124_0, e_124_1, e_124_4, e_124_5, e_124_6, e_124_9, e_124_12, e_124_24, e_124_25, e_124_26, e_124_29, e_124_30, e_124_31, e_124_34, e_124_35, e_124_37, e_124_38, i_lit, i_add, i_mul, i_m1, i_lt, i_le, i_eq, i_cl, i_in, i_ltN, i_Nlt, i_leN, i_Nle, i_eN, i_Ne, i_inN, i_l1, i_l2, mj_cpok, mj_nn, reduceCtorEq, lg_self, Nat.not_lt_zero, Nat.zero_le, Nat.reduceEqDiff, Nat.reduceLT, Nat.reduceLeDiff, true_or, or_true, false_or, or_false, not_true_eq_false, not_false_eq_true, true_imp_iff, false_imp_iff, and_self, wrd, u2, and_true, true_and, and_false, false_and, and_self, ite_true, ite_false, reduceIte]
  refine r_115 G hT h1 hi (fun c => ?_) (fun c => ?_)
  · have k0 := K0 (by rw [c.1, sgn40]; decide)
    show mK (d + 2) 124 1 4 _ _ Q _ _
    rw [mK_x (by decide +kernel)]
    exact k0
  · simp (disch := omega) only [e_124_0, e_124_1, e_124_4, e_124_5, e_124_6, e_124_9, e_124_12, e_124_24, e_124_25, e_124_26, e_124_29, e_124_30, e_124_31, e_124_34, e_124_35, e_124_37, e_124_38, i_lit, i_add, i_mul, i_m1, i_lt, i_le, i_eq, i_cl, i_in, i_ltN, i_Nlt, i_leN, i_Nle, i_eN, i_Ne, i_inN, i_l1, i_l2, mj_cpok, mj_nn, reduceCtorEq, lg_self, Nat.not_lt_zero, Nat.zero_le, Nat.reduceEqDiff, Nat.reduceLT, Nat.reduceLeDiff, true_or, or_true, false_or, or_false, not_true_eq_false, not_false_eq_true, true_imp_iff, false_imp_iff, and_self, wrd, u2, and_true, true_and, and_false, false_and, and_self, ite_true, ite_false, reduceIte, mK_v]
    refine r_116 hb.1 (fun h => ?_) (fun h => ?_)
    · have k := K1 h
      rw [sgI_n (by omega)]
      simp (disch := omega) only [e_124_0, e_124_1, e_124_4, e_124_5, e_124_6, e_124_9, e_124_12, e_124_24, e_124_25, e_124_26, e_124_29, e_124_30, e_124_31, e_124_34, e_124_35, e_124_37, e_124_38, i_lit, i_add, i_mul, i_m1, i_lt, i_le, i_eq, i_cl, i_in, i_ltN, i_Nlt, i_leN, i_Nle, i_eN, i_Ne, i_inN, i_l1, i_l2, mj_cpok, mj_nn, reduceCtorEq, lg_self, Nat.not_lt_zero, Nat.zero_le, Nat.reduceEqDiff, Nat.reduceLT, Nat.reduceLeDiff, true_or, or_true, false_or, or_false, not_true_eq_false, not_false_eq_true, true_imp_iff, false_imp_iff, and_self, wrd, u2, and_true, true_and, and_false, false_and, and_self, ite_true, ite_false, reduceIte, mK_v, h1, i_sub]
      (repeat' (first | (with_reducible refine And.intro ?_ ?_) | (with_reducible intro _)))
      all_goals first | omega | exact k
    · have k := K0 h
      simp (disch := omega) only [e_124_0, e_124_1, e_124_4, e_124_5, e_124_6, e_124_9, e_124_12, e_124_24, e_124_25, e_124_26, e_124_29, e_124_30, e_124_31, e_124_34, e_124_35, e_124_37, e_124_38, i_lit, i_add, i_mul, i_m1, i_lt, i_le, i_eq, i_cl, i_in, i_ltN, i_Nlt, i_leN, i_Nle, i_eN, i_Ne, i_inN, i_l1, i_l2, mj_cpok, mj_nn, reduceCtorEq, lg_self, Nat.not_lt_zero, Nat.zero_le, Nat.reduceEqDiff, Nat.reduceLT, Nat.reduceLeDiff, true_or, or_true, false_or, or_false, not_true_eq_false, not_false_eq_true, true_imp_iff, false_imp_iff, and_self, wrd, u2, and_true, true_and, and_false, false_and, and_self, ite_true, ite_false, reduceIte, mK_v]
      (repeat' (first | (with_reducible refine And.intro ?_ ?_) | (with_reducible intro _)))
      all_goals first | omega | exact k
theorem spM_bt {a b : Nat} : ∀ {k q : Nat}, k ≤ 8 → (bt (spM a b k) q = true ↔ q < k ∧ a ≤ q ∧ q ≤ b)
  | 0, q, _ => by
    show bt (Int32.ofNat 0) q = true ↔ _
    rw [bt_0]; exact ⟨fun h => (by cases h), fun h => absurd h.1 (Nat.not_lt_zero q)⟩
  | k + 1, q, h => by
    unfold spM
    rw [bt_or, Bool.or_eq_true, spM_bt (by omega)]
    by_cases c : a ≤ k ∧ k ≤ b
    · rw [if_pos c, bit1_bt (by omega), decide_eq_true_eq]; omega
    · rw [if_neg c, bt_0]
      refine ⟨fun h => h.elim (fun h => by omega) (fun h => (by cases h)), fun h => Or.inl (by omega)⟩
/-- the letters from one to another, put to a set -/
theorem r_125i {a b : Nat} {m m' : Int32} (ha : a < 8) (hb : b < 8) (hm : ∀ q, q < 32 → (bt m' q = true ↔ bt m q = true ∨ (a ≤ q ∧ q ≤ b))) {p : Option Ptr} (K : ∀ k, mR d W 125 55 [some (vR p), some (vI m'), some (vI (Int32.ofNat a)), some (vI (Int32.ofNat b)), some (vI (Int32.ofNat k))] [] Q) :
    ∀ (f k : Nat) (y : Int32), k + f = 8 → a ≤ k → (a ≤ b → k ≤ b + 1) → (b < a → k = a) → (∀ q, q < 32 → (bt y q = true ↔ bt m q = true ∨ (a ≤ q ∧ q < k))) → mR d W 125 36 [some (vR p), some (vI y), some (vI (Int32.ofNat a)), some (vI (Int32.ofNat b)), some (vI (Int32.ofNat k))] [] Q := by
  have out : ∀ k y, k ≤ 8 → b < k → (a ≤ b → k ≤ b + 1) → (b < a → k = a) → (∀ q, q < 32 → (bt y q = true ↔ bt m q = true ∨ (a ≤ q ∧ q < k))) → y = m' := by
    intro k y h1 h2 h3 h4 hy
    refine bt_ext fun q hq => ?_
    rw [Bool.eq_iff_iff, hy q hq, hm q hq]
    refine or_congr_right ?_
    omega
  intro f
  induction f with
  | zero =>
    intro k y hk h1 h2 h3 hy
    have e := out k y (by omega) (by omega) h2 h3 hy
    subst e
    have k0 := K k
    rw [e_125_36]
    simp (disch := omega) only [e_125_38, e_125_39, i_lit, i_add, i_mul, i_m1, i_lt, i_le, i_eq, i_cl, i_in, i_ltN, i_Nlt, i_leN, i_Nle, i_eN, i_Ne, i_inN, i_l1, i_l2, mj_cpok, mj_nn, reduceCtorEq, lg_self, Nat.not_lt_zero, Nat.zero_le, Nat.reduceEqDiff, Nat.reduceLT, Nat.reduceLeDiff, true_or, or_true, false_or, or_false, not_true_eq_false, not_false_eq_true, true_imp_iff, false_imp_iff, and_self, wrd, u2, and_true, true_and, and_false, false_and, and_self, ite_true, ite_false, reduceIte]
    (repeat' (first | (with_reducible refine And.intro ?_ ?_) | (with_reducible intro _)))
    all_goals first | omega | exact k0
  | succ f ih =>
    intro k y hk h1 h2 h3 hy
    rw [e_125_36]
    by_cases c : b < k
    · have e := out k y (by omega) c h2 h3 hy
      subst e
      have k0 := K k
      simp (disch := omega) only [e_125_38, e_125_39, i_lit, i_add, i_mul, i_m1, i_lt, i_le, i_eq, i_cl, i_in, i_ltN, i_Nlt, i_leN, i_Nle, i_eN, i_Ne, i_inN, i_l1, i_l2, mj_cpok, mj_nn, reduceCtorEq, lg_self, Nat.not_lt_zero, Nat.zero_le, Nat.reduceEqDiff, Nat.reduceLT, Nat.reduceLeDiff, true_or, or_true, false_or, or_false, not_true_eq_false, not_false_eq_true, true_imp_iff, false_imp_iff, and_self, wrd, u2, and_true, true_and, and_false, false_and, and_self, ite_true, ite_false, reduceIte]
      (repeat' (first | (with_reducible refine And.intro ?_ ?_) | (with_reducible intro _)))
      all_goals first | omega | exact k0
    · have nn := ih (k + 1) (y ||| bit1 k) (by omega) (by omega) (by omega) (by omega) (fun q hq => by
        rw [bt_or, Bool.or_eq_true, bit1_bt (by omega), decide_eq_true_eq, hy q hq, or_assoc]
        refine or_congr_right ?_
        omega)
      unfold bit1 at nn
      simp (disch := omega) only [e_125_38, e_125_39, e_125_42, e_125_43, e_125_44, e_125_46, e_125_47, e_125_48, e_125_49, e_125_52, i_lit, i_add, i_mul, i_m1, i_lt, i_le, i_eq, i_cl, i_in, i_ltN, i_Nlt, i_leN, i_Nle, i_eN, i_Ne, i_inN, i_l1, i_l2, mj_cpok, mj_nn, reduceCtorEq, lg_self, Nat.not_lt_zero, Nat.zero_le, Nat.reduceEqDiff, Nat.reduceLT, Nat.reduceLeDiff, true_or, or_true, false_or, or_false, not_true_eq_false, not_false_eq_true, true_imp_iff, false_imp_iff, and_self, wrd, u2, and_true, true_and, and_false, false_and, and_self, ite_true, ite_false, reduceIte]
      (repeat' (first | (with_reducible refine And.intro ?_ ?_) | (with_reducible intro _)))
      all_goals first | omega | exact nn
end RF
