/-! build: kinds and classes, to the end. -/
def Le (A : Nat → Int32) (mv : Nat → Option Nat) (i r : Nat) : Prop := r ≤ i ∧ Pe A mv r i ∧ ∀ j, j < r → ¬ Pe A mv j i
theorem Le_iff {A : Nat → Int32} {mv : Nat → Option Nat} {a b x y : Nat} (ha : Le A mv a x) (hb : Le A mv b y) : x = y ↔ Pe A mv a b := by
  constructor
  · rintro rfl
    exact Pe_trans (Pe_symm ha.2.1) hb.2.1
  · intro h
    rcases Nat.lt_trichotomy x y with h1 | h1 | h1
    · exact absurd (Pe_trans ha.2.1 h) (hb.2.2 x h1)
    · exact h1
    · exact absurd (Pe_trans hb.2.1 (Pe_symm h)) (ha.2.2 y h1)
theorem Le_of {A : Nat → Int32} {mv : Nat → Option Nat} {n k i r : Nat} (hm : ∀ t a, t < 8 * n → mv t = some a → a < n) (h : nK A mv n (k + 1) = nK A mv n k) (hi : i < n) (hL : Lq A mv (k + 1) i r) : Le A mv i r := by
  have hr := hL.1
  exact ⟨hr, (Pe_iff hm h (by omega) hi).mpr hL.2.1, fun j hj q => hL.2.2 j hj ((Pe_iff hm h (by omega) hi).mp q)⟩
section CK
variable {d n : Nat} {w : MWd} {Q : MRes → MWd → Prop} {A : Nat → Int32} {mv : Nat → Option Nat}
theorem s_33 (G : Gr w) (hF : KF w n A mv)
    (K : ∀ (w' : MWd) (kd : Nat → Nat), Fr (fun _ _ => False) (fun a => a = 53 ∨ a = 54) 0 0 w w' → (∀ i, i < n → wAI w' 53 i = Int32.ofNat (kd i)) → (∀ i, i < n → Le A mv i (kd i)) → Q (.inl none) w') :
    mR (d + 3) w 33 0 [some (vR (some (3, 0, 47))), none, none, none] [] Q := by
  have hF' := hF
  obtain ⟨f1, f2, f3, f4, f5, f6⟩ := hF
  have kf : ∀ {w' : MWd}, Fr (fun _ _ => False) (fun a => a = 53 ∨ a = 54) 0 0 w w' → KF w' n A mv := fun hW => ⟨f1, f2, (Fr_fi hW (by decide) (fun q => q)).trans f3, by rw [Fr_ai hW (by decide) (by decide)]; exact f4, by rw [Fr_ai hW (by decide) (by decide)]; exact f5, f6⟩
  have loop : ∀ (f k : Nat) (w' : MWd) (kd : Nat → Nat) (c : Nat) (l3 : Option MV), k + f = 101 → Fr (fun _ _ => False) (fun a => a = 53 ∨ a = 54) 0 0 w w' → (∀ i, i < n → wAI w' 53 i = Int32.ofNat (kd i)) → (∀ i, i < n → Lq A mv k i (kd i)) →
      (k = 0 ∧ c = 0 ∨ 1 ≤ k ∧ c = nK A mv n k ∧ k ≤ c) → mR (d + 3) w' 33 25 [some (vR (some (3, 0, 47))), some (vI (Int32.ofNat c)), some (vI (Int32.ofNat k)), l3] [] Q := by
    intro f
    induction f with
    | zero =>
      intro k w' kd c l3 hk hW g1 g2 g3
      exfalso
      have := nK_le (A := A) (mv := mv) (n := n) (k := k)
      omega
    | succ f ih =>
      intro k w' kd c l3 hk hW g1 g2 g3
      have G' := Fr_Gr hW G
      have c1 := nK_le (A := A) (mv := mv) (n := n) (k := k)
      have c2 := nK_le (A := A) (mv := mv) (n := n) (k := k + 1)
      rw [e_33_25]
      simp (disch := omega) only [e_33_26, e_33_28, e_33_31, e_33_32, e_33_33, e_33_34, i_lit, i_add, i_mul, i_m1, i_lt, i_le, i_eq, i_cl, i_in, i_ltN, i_Nlt, i_leN, i_Nle, i_eN, i_Ne, i_inN, i_l1, i_l2, mj_cpok, mj_nn, reduceCtorEq, lg_self, Nat.not_lt_zero, Nat.zero_le, Nat.reduceEqDiff, Nat.reduceLT, Nat.reduceLeDiff, true_or, or_true, false_or, or_false, not_true_eq_false, not_false_eq_true, true_imp_iff, false_imp_iff, and_self, wrd, u2, and_true, true_and, and_false, false_and, and_self, ite_true, ite_false, reduceIte]
      refine ⟨fun q => by omega, fun _ => ?_⟩
      refine s_34 G' (kf hW) g1 g2 (fun w'' kd' hW' g1' g2' => ?_)
      have hW'' : Fr (fun _ _ => False) (fun a => a = 53 ∨ a = 54) 0 0 w w'' := Fr_trans (x := 0) (y := 0) (x' := 0) (y' := 0) hW hW'
      simp (disch := omega) only [mK_v, e_33_37, e_33_38, e_33_39, e_33_40, e_33_43, e_33_44, e_33_47, i_lit, i_add, i_mul, i_m1, i_lt, i_le, i_eq, i_cl, i_in, i_ltN, i_Nlt, i_leN, i_Nle, i_eN, i_Ne, i_inN, i_l1, i_l2, mj_cpok, mj_nn, reduceCtorEq, lg_self, Nat.not_lt_zero, Nat.zero_le, Nat.reduceEqDiff, Nat.reduceLT, Nat.reduceLeDiff, true_or, or_true, false_or, or_false, not_true_eq_false, not_false_eq_true, true_imp_iff, false_imp_iff, and_self, wrd, u2, and_true, true_and, and_false, false_and, and_self, ite_true, ite_false, reduceIte]
      have hmo := nK_mono (A := A) (mv := mv) (n := n) (k := k)
      have h0 := nK_0 (A := A) (mv := mv) (n := n) (by omega)
      refine ⟨fun hne => ?_, fun he => ?_⟩
      · refine ih (k + 1) w'' kd' _ _ (by omega) hW'' g1' g2' (Or.inr ⟨by omega, rfl, ?_⟩)
        rcases g3 with ⟨hk0, hc⟩ | ⟨hk1, hc, hkc⟩
        · subst hk0; omega
        · omega
      · rcases g3 with ⟨hk0, hc⟩ | ⟨hk1, hc, hkc⟩
        · subst hk0; omega
        · exact K w'' kd' hW'' g1' (fun i hi => Le_of f6 (by omega) hi (g2' i hi))
  have ini : ∀ (f i : Nat) (w' : MWd), i + f = 100 → Fr (fun _ _ => False) (fun a => a = 53 ∨ a = 54) 0 0 w w' → (∀ q, q < i → wAI w' 53 q = Int32.ofNat 0) → mR (d + 3) w' 33 2 [some (vR (some (3, 0, 47))), some (vI (Int32.ofNat i)), none, none] [] Q := by
    intro f
    induction f with
    | zero =>
      intro i w' hi hW g
      rw [e_33_2]
      simp (disch := omega) only [e_33_3, e_33_5, e_33_21, e_33_22, e_33_23, e_33_24, i_lit, i_add, i_mul, i_m1, i_lt, i_le, i_eq, i_cl, i_in, i_ltN, i_Nlt, i_leN, i_Nle, i_eN, i_Ne, i_inN, i_l1, i_l2, mj_cpok, mj_nn, reduceCtorEq, lg_self, Nat.not_lt_zero, Nat.zero_le, Nat.reduceEqDiff, Nat.reduceLT, Nat.reduceLeDiff, true_or, or_true, false_or, or_false, not_true_eq_false, not_false_eq_true, true_imp_iff, false_imp_iff, and_self, wrd, u2, and_true, true_and, and_false, false_and, and_self, ite_true, ite_false, reduceIte]
      (repeat' (first | (with_reducible refine And.intro ?_ ?_) | (with_reducible intro _)))
      all_goals try omega
      exact loop 101 0 w' (fun _ => 0) 0 none (by omega) hW (fun q hq => g q (by omega)) (fun q hq => ⟨Nat.zero_le q, trivial, fun j hj => absurd hj (Nat.not_lt_zero j)⟩) (Or.inl ⟨rfl, rfl⟩)
    | succ f ih =>
      intro i w' hi hW g
      rw [e_33_2]
      simp (disch := omega) only [e_33_3, e_33_5, e_33_8, e_33_9, e_33_12, e_33_13, e_33_14, e_33_15, e_33_18, i_lit, i_add, i_mul, i_m1, i_lt, i_le, i_eq, i_cl, i_in, i_ltN, i_Nlt, i_leN, i_Nle, i_eN, i_Ne, i_inN, i_l1, i_l2, mj_cpok, mj_nn, reduceCtorEq, lg_self, Nat.not_lt_zero, Nat.zero_le, Nat.reduceEqDiff, Nat.reduceLT, Nat.reduceLeDiff, true_or, or_true, false_or, or_false, not_true_eq_false, not_false_eq_true, true_imp_iff, false_imp_iff, and_self, wrd, u2, and_true, true_and, and_false, false_and, and_self, ite_true, ite_false, reduceIte, g_197 (Fr_Gr hW G)]
      (repeat' (first | (with_reducible refine And.intro ?_ ?_) | (with_reducible intro _)))
      all_goals try omega
      refine ih (i + 1) _ (by omega) (Fr_sAI hW (Or.inl (Or.inl rfl))) (fun q hq => ?_)
      simp only [mj_cpok, mj_nn, reduceCtorEq, lg_self, Nat.not_lt_zero, Nat.zero_le, Nat.reduceEqDiff, Nat.reduceLT, Nat.reduceLeDiff, true_or, or_true, false_or, or_false, not_true_eq_false, not_false_eq_true, true_imp_iff, false_imp_iff, and_self, wrd, u2, and_true, true_and, and_false, false_and, and_self, ite_true, ite_false, reduceIte]
      by_cases hqi : q = i
      · rw [if_pos hqi]
      · rw [if_neg hqi]; exact g q (by omega)
  rw [e_33_0, e_33_1]
  exact ini 100 0 w (by omega) Fr_refl (fun q hq => absurd hq (Nat.not_lt_zero q))
/-- the reference's -/
def CF (w : MWd) (n : Nat) (A : Nat → Int32) (mv : Nat → Option Nat) : Prop := 1 ≤ n ∧ n ≤ 100 ∧ wFI w 669 128 = Int32.ofNat n ∧ (∀ s, s < n → wAI w 156 s = A s) ∧ (∀ t, t < 8 * n → wAI w 157 t = en (mv t)) ∧ (∀ t a, t < 8 * n → mv t = some a → a < n)
theorem s_143 {k a b : Nat} {cl : Nat → Nat} (G : Gr w) (hF : CF w n A mv) (hk : ∀ i, i < n → wAI w 158 i = Int32.ofNat (cl i) ∧ cl i < n) (hL : ∀ i j, i < n → j < n → (cl i = cl j ↔ Pq A mv k i j)) (ha : a < n) (hb : b < n)
    (h1 : Pq A mv (k + 1) a b → Q (.inl (some (vI (Int32.ofNat 1)))) w) (h0 : ¬ Pq A mv (k + 1) a b → Q (.inl (some (vI (Int32.ofNat 0)))) w) :
    mR (d + 1) w 143 0 [some (vR (some (10, 0, 128))), some (vI (Int32.ofNat a)), some (vI (Int32.ofNat b)), none, none] [] Q := by
  obtain ⟨f1, f2, f3, f4, f5, f6⟩ := hF
  have kin : ∀ x y : Option Nat, (∀ a, x = some a → a < n) → (∀ a, y = some a → a < n) → (kdB cl x = kdB cl y ↔ Pm (Pq A mv k) x y) := by
    intro x y hx hy
    cases x with
    | none =>
      cases y with
      | none => exact iff_of_true rfl trivial
      | some b =>
        have h2 := hy b rfl
        have h3 := (hk b h2).2
        exact iff_of_false (fun h => (i_Ne (by omega)).mp h) (fun h => h)
    | some a =>
      have h2 := hx a rfl
      have h3 := (hk a h2).2
      cases y with
      | none => exact iff_of_false (fun h => (i_eN (by omega)).mp h) (fun h => h)
      | some b =>
        have h4 := hy b rfl
        have h5 := (hk b h4).2
        show Int32.ofNat (cl a) = Int32.ofNat (cl b) ↔ Pq A mv k a b
        rw [i_eq (by omega) (by omega)]
        exact hL a b h2 h4
  have cls : ∀ {s l : Nat} {Q : MRes → MWd → Prop}, s < n → l < 8 → Q (.inl (some (vI (kdB cl (mv (8 * s + l)))))) w → mR d w 142 0 [some (vR (some (10, 0, 128))), some (vI (en (mv (8 * s + l))))] [] Q := by
    intro s l Q hs hl h
    cases hv : mv (8 * s + l) with
    | none =>
      rw [hv] at h
      show mR d w 142 0 [some (vR (some (10, 0, 128))), some (vI NN)] [] Q
      simp (disch := omega) only [e_142_0, e_142_1, e_142_2, e_142_5, e_142_6, e_142_9, e_142_10, e_142_13, e_142_14, e_142_15, i_lit, i_add, i_mul, i_m1, i_lt, i_le, i_eq, i_cl, i_in, i_ltN, i_Nlt, i_leN, i_Nle, i_eN, i_Ne, i_inN, i_l1, i_l2, mj_cpok, mj_nn, reduceCtorEq, lg_self, Nat.not_lt_zero, Nat.zero_le, Nat.reduceEqDiff, Nat.reduceLT, Nat.reduceLeDiff, true_or, or_true, false_or, or_false, not_true_eq_false, not_false_eq_true, true_imp_iff, false_imp_iff, and_self, wrd, u2, and_true, true_and, and_false, false_and, and_self, ite_true, ite_false, reduceIte]
      (repeat' (first | (with_reducible refine And.intro ?_ ?_) | (with_reducible intro _)))
      all_goals first | omega | exact h
    | some x =>
      have hx := f6 _ x (by omega) hv
      have ek := (hk x hx).1
      rw [hv] at h
      show mR d w 142 0 [some (vR (some (10, 0, 128))), some (vI (Int32.ofNat x))] [] Q
      simp (disch := omega) only [e_142_0, e_142_1, e_142_2, e_142_5, e_142_6, e_142_9, e_142_10, e_142_13, e_142_14, e_142_15, i_lit, i_add, i_mul, i_m1, i_lt, i_le, i_eq, i_cl, i_in, i_ltN, i_Nlt, i_leN, i_Nle, i_eN, i_Ne, i_inN, i_l1, i_l2, mj_cpok, mj_nn, reduceCtorEq, lg_self, Nat.not_lt_zero, Nat.zero_le, Nat.reduceEqDiff, Nat.reduceLT, Nat.reduceLeDiff, true_or, or_true, false_or, or_false, not_true_eq_false, not_false_eq_true, true_imp_iff, false_imp_iff, and_self, wrd, u2, and_true, true_and, and_false, false_and, and_self, ite_true, ite_false, reduceIte, g_673 G, ek]
      (repeat' (first | (with_reducible refine And.intro ?_ ?_) | (with_reducible intro _)))
      all_goals first | omega | exact h
  have loop : ∀ (f l : Nat) (y : Int32), l + f = 8 → (y = Int32.ofNat 1 ∧ A a = A b ∧ (∀ q, q < l → Pm (Pq A mv k) (mv (8 * a + q)) (mv (8 * b + q))) ∨ y = Int32.ofNat 0 ∧ ¬ Pq A mv (k + 1) a b) →
      mR (d + 1) w 143 24 [some (vR (some (10, 0, 128))), some (vI (Int32.ofNat a)), some (vI (Int32.ofNat b)), some (vI y), some (vI (Int32.ofNat l))] [] Q := by
    intro f
    induction f with
    | zero =>
      intro l y hl h
      have he : l = 8 := by omega
      subst he
      rw [e_143_24]
      rcases h with ⟨rfl, hA, h⟩ | ⟨rfl, h⟩
      · simp (disch := omega) only [e_143_0, e_143_1, e_143_4, e_143_5, e_143_6, e_143_7, e_143_10, e_143_11, e_143_12, e_143_15, e_143_16, e_143_19, e_143_20, e_143_21, e_143_22, e_143_26, e_143_28, e_143_31, e_143_32, e_143_35, e_143_36, e_143_37, e_143_40, e_143_42, e_143_43, e_143_44, e_143_46, e_143_47, e_143_48, e_143_51, e_143_52, e_143_53, e_143_56, e_143_58, e_143_59, e_143_60, e_143_62, e_143_63, e_143_64, e_143_67, e_143_70, e_143_71, e_143_74, e_143_75, e_143_76, e_143_79, e_143_82, e_143_83, i_lit, i_add, i_mul, i_m1, i_lt, i_le, i_eq, i_cl, i_in, i_ltN, i_Nlt, i_leN, i_Nle, i_eN, i_Ne, i_inN, i_l1, i_l2, mj_cpok, mj_nn, reduceCtorEq, lg_self, Nat.not_lt_zero, Nat.zero_le, Nat.reduceEqDiff, Nat.reduceLT, Nat.reduceLeDiff, true_or, or_true, false_or, or_false, not_true_eq_false, not_false_eq_true, true_imp_iff, false_imp_iff, and_self, wrd, u2, and_true, true_and, and_false, false_and, and_self, ite_true, ite_false, reduceIte]
        (repeat' (first | (with_reducible refine And.intro ?_ ?_) | (with_reducible intro _)))
        all_goals first | omega | exact h1 ⟨hA, h⟩
      · simp (disch := omega) only [e_143_0, e_143_1, e_143_4, e_143_5, e_143_6, e_143_7, e_143_10, e_143_11, e_143_12, e_143_15, e_143_16, e_143_19, e_143_20, e_143_21, e_143_22, e_143_26, e_143_28, e_143_31, e_143_32, e_143_35, e_143_36, e_143_37, e_143_40, e_143_42, e_143_43, e_143_44, e_143_46, e_143_47, e_143_48, e_143_51, e_143_52, e_143_53, e_143_56, e_143_58, e_143_59, e_143_60, e_143_62, e_143_63, e_143_64, e_143_67, e_143_70, e_143_71, e_143_74, e_143_75, e_143_76, e_143_79, e_143_82, e_143_83, i_lit, i_add, i_mul, i_m1, i_lt, i_le, i_eq, i_cl, i_in, i_ltN, i_Nlt, i_leN, i_Nle, i_eN, i_Ne, i_inN, i_l1, i_l2, mj_cpok, mj_nn, reduceCtorEq, lg_self, Nat.not_lt_zero, Nat.zero_le, Nat.reduceEqDiff, Nat.reduceLT, Nat.reduceLeDiff, true_or, or_true, false_or, or_false, not_true_eq_false, not_false_eq_true, true_imp_iff, false_imp_iff, and_self, wrd, u2, and_true, true_and, and_false, false_and, and_self, ite_true, ite_false, reduceIte]
        (repeat' (first | (with_reducible refine And.intro ?_ ?_) | (with_reducible intro _)))
        all_goals first | omega | exact h0 h
    | succ f ih =>
      intro l y hl h
      rw [e_143_24]
      rcases h with ⟨rfl, hA, h⟩ | ⟨rfl, h⟩
      · have ea := f5 (8 * a + l) (by omega)
        have eb := f5 (8 * b + l) (by omega)
        have hi := kin (mv (8 * a + l)) (mv (8 * b + l)) (fun x hx => f6 _ x (by omega) hx) (fun x hx => f6 _ x (by omega) hx)
        simp (disch := omega) only [e_143_26, e_143_28, e_143_31, e_143_32, e_143_35, e_143_36, e_143_37, e_143_40, e_143_42, e_143_43, e_143_44, e_143_46, e_143_47, e_143_48, i_lit, i_add, i_mul, i_m1, i_lt, i_le, i_eq, i_cl, i_in, i_ltN, i_Nlt, i_leN, i_Nle, i_eN, i_Ne, i_inN, i_l1, i_l2, mj_cpok, mj_nn, reduceCtorEq, lg_self, Nat.not_lt_zero, Nat.zero_le, Nat.reduceEqDiff, Nat.reduceLT, Nat.reduceLeDiff, true_or, or_true, false_or, or_false, not_true_eq_false, not_false_eq_true, true_imp_iff, false_imp_iff, and_self, wrd, u2, and_true, true_and, and_false, false_and, and_self, ite_true, ite_false, reduceIte, g_672 G, ea]
        (repeat' (first | (with_reducible refine And.intro ?_ ?_) | (with_reducible intro _)))
        all_goals try omega
        refine cls ha (by omega) ?_
        simp (disch := omega) only [mK_v, e_143_51, e_143_52, e_143_53, e_143_56, e_143_58, e_143_59, e_143_60, e_143_62, e_143_63, e_143_64, i_lit, i_add, i_mul, i_m1, i_lt, i_le, i_eq, i_cl, i_in, i_ltN, i_Nlt, i_leN, i_Nle, i_eN, i_Ne, i_inN, i_l1, i_l2, mj_cpok, mj_nn, reduceCtorEq, lg_self, Nat.not_lt_zero, Nat.zero_le, Nat.reduceEqDiff, Nat.reduceLT, Nat.reduceLeDiff, true_or, or_true, false_or, or_false, not_true_eq_false, not_false_eq_true, true_imp_iff, false_imp_iff, and_self, wrd, u2, and_true, true_and, and_false, false_and, and_self, ite_true, ite_false, reduceIte, g_672 G, eb]
        (repeat' (first | (with_reducible refine And.intro ?_ ?_) | (with_reducible intro _)))
        all_goals try omega
        refine cls hb (by omega) ?_
        simp (disch := omega) only [mK_v, e_143_67, e_143_70, e_143_71, e_143_74, e_143_75, e_143_76, e_143_79, i_lit, i_add, i_mul, i_m1, i_lt, i_le, i_eq, i_cl, i_in, i_ltN, i_Nlt, i_leN, i_Nle, i_eN, i_Ne, i_inN, i_l1, i_l2, mj_cpok, mj_nn, reduceCtorEq, lg_self, Nat.not_lt_zero, Nat.zero_le, Nat.reduceEqDiff, Nat.reduceLT, Nat.reduceLeDiff, true_or, or_true, false_or, or_false, not_true_eq_false, not_false_eq_true, true_imp_iff, false_imp_iff, and_self, wrd, u2, and_true, true_and, and_false, false_and, and_self, ite_true, ite_false, reduceIte]
        refine ⟨fun hne => ih (l + 1) _ (by omega) (Or.inr ⟨rfl, fun q => hne (hi.mpr (q.2 l (by omega)))⟩), fun he => ih (l + 1) _ (by omega) (Or.inl ⟨rfl, hA, fun q hq => ?_⟩)⟩
        by_cases hql : q = l
        · subst hql; exact hi.mp he
        · exact h q (by omega)
      · have nn := ih (l + 1) (Int32.ofNat 0) (by omega) (Or.inr ⟨rfl, h⟩)
        simp (disch := omega) only [e_143_26, e_143_28, e_143_31, e_143_32, e_143_74, e_143_75, e_143_76, e_143_79, i_lit, i_add, i_mul, i_m1, i_lt, i_le, i_eq, i_cl, i_in, i_ltN, i_Nlt, i_leN, i_Nle, i_eN, i_Ne, i_inN, i_l1, i_l2, mj_cpok, mj_nn, reduceCtorEq, lg_self, Nat.not_lt_zero, Nat.zero_le, Nat.reduceEqDiff, Nat.reduceLT, Nat.reduceLeDiff, true_or, or_true, false_or, or_false, not_true_eq_false, not_false_eq_true, true_imp_iff, false_imp_iff, and_self, wrd, u2, and_true, true_and, and_false, false_and, and_self, ite_true, ite_false, reduceIte]
        (repeat' (first | (with_reducible refine And.intro ?_ ?_) | (with_reducible intro _)))
        all_goals first | omega | exact nn
  have e3 := f4 a ha
  have e4 := f4 b hb
  simp (disch := omega) only [e_143_0, e_143_1, e_143_4, e_143_5, e_143_6, e_143_7, e_143_10, e_143_11, e_143_12, e_143_15, e_143_16, e_143_19, e_143_20, e_143_21, e_143_22, e_143_26, e_143_28, e_143_31, e_143_32, e_143_35, e_143_36, e_143_37, e_143_40, e_143_42, e_143_43, e_143_44, e_143_46, e_143_47, e_143_48, e_143_51, e_143_52, e_143_53, e_143_56, e_143_58, e_143_59, e_143_60, e_143_62, e_143_63, e_143_64, e_143_67, e_143_70, e_143_71, e_143_74, e_143_75, e_143_76, e_143_79, e_143_82, e_143_83, i_lit, i_add, i_mul, i_m1, i_lt, i_le, i_eq, i_cl, i_in, i_ltN, i_Nlt, i_leN, i_Nle, i_eN, i_Ne, i_inN, i_l1, i_l2, mj_cpok, mj_nn, reduceCtorEq, lg_self, Nat.not_lt_zero, Nat.zero_le, Nat.reduceEqDiff, Nat.reduceLT, Nat.reduceLeDiff, true_or, or_true, false_or, or_false, not_true_eq_false, not_false_eq_true, true_imp_iff, false_imp_iff, and_self, wrd, u2, and_true, true_and, and_false, false_and, and_self, ite_true, ite_false, reduceIte, g_671 G, e3, e4]
  refine ⟨by omega, by omega, fun hne => loop 8 0 _ (by omega) (Or.inr ⟨rfl, fun q => hne q.1⟩), fun he => loop 8 0 _ (by omega) (Or.inl ⟨rfl, he, fun q hq => absurd hq (Nat.not_lt_zero q)⟩)⟩
end CK
