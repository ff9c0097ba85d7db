/-! build: the class puts alike sets together. -/
def KF (w : MWd) (n : Nat) (A : Nat → Int32) (mv : Nat → Option Nat) : Prop := 1 ≤ n ∧ n ≤ 100 ∧ wFI w 201 47 = Int32.ofNat n ∧ (∀ s, s < n → wAI w 50 s = A s) ∧ (∀ t, t < 8 * n → wAI w 49 t = en (mv t)) ∧ (∀ t a, t < 8 * n → mv t = some a → a < n)
def kdB (kd : Nat → Nat) : Option Nat → Int32
  | none => NN
  | some a => Int32.ofNat (kd a)
/-- the kind of a set is the first one that is alike to it so far -/
def Lq (A : Nat → Int32) (mv : Nat → Option Nat) (k i r : Nat) : Prop := r ≤ i ∧ Pq A mv k r i ∧ ∀ j, j < r → ¬ Pq A mv k j i
theorem Lq_iff {A : Nat → Int32} {mv : Nat → Option Nat} {k a b x y : Nat} (ha : Lq A mv k a x) (hb : Lq A mv k b y) : x = y ↔ Pq A mv k a b := by
  constructor
  · rintro rfl
    exact Pq_trans k (Pq_symm k ha.2.1) hb.2.1
  · intro h
    rcases Nat.lt_trichotomy x y with h1 | h1 | h1
    · exact absurd (Pq_trans k ha.2.1 h) (hb.2.2 x h1)
    · exact h1
    · exact absurd (Pq_trans k hb.2.1 (Pq_symm k h)) (ha.2.2 y h1)
theorem kdB_iff {A : Nat → Int32} {mv : Nat → Option Nat} {k n : Nat} {kd : Nat → Nat} (hk : ∀ i, i < n → Lq A mv k i (kd i)) (hn : n ≤ 100) {x y : Option Nat} (hx : ∀ a, x = some a → a < n) (hy : ∀ a, y = some a → a < n) : kdB kd x = kdB kd y ↔ Pm (Pq A mv k) x y := by
  cases x with
  | none =>
    cases y with
    | none => exact iff_of_true rfl trivial
    | some b =>
      have h1 := (hk b (hy b rfl)).1
      have h2 := hy b rfl
      exact iff_of_false (fun h => (i_Ne (by omega)).mp h) (fun h => h)
  | some a =>
    have h1 := (hk a (hx a rfl)).1
    have h2 := hx a rfl
    cases y with
    | none => exact iff_of_false (fun h => (i_eN (by omega)).mp h) (fun h => h)
    | some b =>
      have h3 := (hk b (hy b rfl)).1
      have h4 := hy b rfl
      show Int32.ofNat (kd a) = Int32.ofNat (kd b) ↔ Pq A mv k a b
      rw [i_eq (by omega) (by omega)]
      exact Lq_iff (hk a h2) (hk b h4)
section CK
variable {d n : Nat} {w : MWd} {Q : MRes → MWd → Prop} {A : Nat → Int32} {mv : Nat → Option Nat} {kd : Nat → Nat}
theorem s_36 {s l : Nat} (G : Gr w) (hF : KF w n A mv) (hk : ∀ i, i < n → wAI w 53 i = Int32.ofNat (kd i)) (hs : s < n) (hl : l < 8) (h : Q (.inl (some (vI (kdB kd (mv (8 * s + l)))))) w) :
    mR d w 36 0 [some (vR (some (3, 0, 47))), some (vI (Int32.ofNat s)), some (vI (Int32.ofNat l)), none] [] Q := by
  obtain ⟨h1, h2, h3, h4, h5, h6⟩ := hF
  have e := h5 (8 * s + l) (by omega)
  cases hv : mv (8 * s + l) with
  | none =>
    rw [hv] at e h
    replace e : wAI w 49 (s * 8 + l) = NN := by rw [Nat.mul_comm s 8]; exact e
    have h0 : NN < Int32.ofNat 0 := (i_Nlt (by omega)).mpr trivial
    simp (disch := omega) only [e_36_0, e_36_1, e_36_4, e_36_5, e_36_7, e_36_8, e_36_9, e_36_10, e_36_11, e_36_12, e_36_13, e_36_16, e_36_17, e_36_18, e_36_21, e_36_24, e_36_25, e_36_27, e_36_30, e_36_31, e_36_34, e_36_35, e_36_36, e_36_39, e_36_40, i_lit, i_add, i_mul, i_m1, i_lt, i_le, i_eq, i_cl, i_in, i_ltN, i_Nlt, i_leN, i_Nle, i_eN, i_Ne, i_inN, i_l1, i_l2, mj_cpok, mj_nn, reduceCtorEq, lg_self, Nat.not_lt_zero, Nat.zero_le, Nat.reduceEqDiff, Nat.reduceLT, Nat.reduceLeDiff, true_or, or_true, false_or, or_false, not_true_eq_false, not_false_eq_true, true_imp_iff, false_imp_iff, and_self, wrd, u2, and_true, true_and, and_false, false_and, and_self, ite_true, ite_false, reduceIte, g_193 G, e]
    (repeat' (first | (with_reducible refine And.intro ?_ ?_) | (with_reducible intro _)))
    all_goals first | omega | exact h
  | some a =>
    have ha := h6 _ a (by omega) hv
    rw [hv] at e h
    replace e : wAI w 49 (s * 8 + l) = Int32.ofNat a := by rw [Nat.mul_comm s 8]; exact e
    have ek := hk a ha
    simp (disch := omega) only [e_36_0, e_36_1, e_36_4, e_36_5, e_36_7, e_36_8, e_36_9, e_36_10, e_36_11, e_36_12, e_36_13, e_36_16, e_36_17, e_36_18, e_36_21, e_36_24, e_36_25, e_36_27, e_36_30, e_36_31, e_36_34, e_36_35, e_36_36, e_36_39, e_36_40, i_lit, i_add, i_mul, i_m1, i_lt, i_le, i_eq, i_cl, i_in, i_ltN, i_Nlt, i_leN, i_Nle, i_eN, i_Ne, i_inN, i_l1, i_l2, mj_cpok, mj_nn, reduceCtorEq, lg_self, Nat.not_lt_zero, Nat.zero_le, Nat.reduceEqDiff, Nat.reduceLT, Nat.reduceLeDiff, true_or, or_true, false_or, or_false, not_true_eq_false, not_false_eq_true, true_imp_iff, false_imp_iff, and_self, wrd, u2, and_true, true_and, and_false, false_and, and_self, ite_true, ite_false, reduceIte, g_193 G, g_197 G, e, h3, ek]
    (repeat' (first | (with_reducible refine And.intro ?_ ?_) | (with_reducible intro _)))
    all_goals first | omega | exact h
theorem s_35 {k a b : Nat} (G : Gr w) (hF : KF w n A mv) (hk : ∀ i, i < n → wAI w 53 i = Int32.ofNat (kd i)) (hL : ∀ i, i < n → Lq A mv k i (kd i)) (ha : a < n) (hb : b < n)
    (h1 : Pq A mv (k + 1) a b → Q (.inl (some (vI (Int32.ofNat 1)))) w) (h0 : ¬ Pq A mv (k + 1) a b → Q (.inl (some (vI (Int32.ofNat 0)))) w) :
    mR (d + 1) w 35 0 [some (vR (some (3, 0, 47))), some (vI (Int32.ofNat a)), some (vI (Int32.ofNat b)), none] [] Q := by
  have hF' := hF
  obtain ⟨f1, f2, f3, f4, f5, f6⟩ := hF
  have l1 := (hL a ha).1
  have l2 := (hL b hb).1
  have loop : A a = A b → ∀ (f l : Nat), l + f = 8 → (∀ q, q < l → Pm (Pq A mv k) (mv (8 * a + q)) (mv (8 * b + q))) → mR (d + 1) w 35 34 [some (vR (some (3, 0, 47))), some (vI (Int32.ofNat a)), some (vI (Int32.ofNat b)), some (vI (Int32.ofNat l))] [] Q := by
    intro hA f
    induction f with
    | zero =>
      intro l hl h
      rw [e_35_34]
      simp (disch := omega) only [e_35_0, e_35_1, e_35_4, e_35_5, e_35_6, e_35_7, e_35_10, e_35_11, e_35_12, e_35_15, e_35_16, e_35_19, e_35_20, e_35_21, e_35_22, e_35_25, e_35_26, e_35_27, e_35_30, e_35_31, e_35_32, e_35_33, e_35_35, e_35_37, e_35_40, e_35_41, e_35_42, e_35_43, e_35_46, e_35_47, e_35_48, e_35_49, e_35_52, e_35_55, e_35_56, e_35_57, e_35_60, e_35_63, e_35_64, i_lit, i_add, i_mul, i_m1, i_lt, i_le, i_eq, i_cl, i_in, i_ltN, i_Nlt, i_leN, i_Nle, i_eN, i_Ne, i_inN, i_l1, i_l2, mj_cpok, mj_nn, reduceCtorEq, lg_self, Nat.not_lt_zero, Nat.zero_le, Nat.reduceEqDiff, Nat.reduceLT, Nat.reduceLeDiff, true_or, or_true, false_or, or_false, not_true_eq_false, not_false_eq_true, true_imp_iff, false_imp_iff, and_self, wrd, u2, and_true, true_and, and_false, false_and, and_self, ite_true, ite_false, reduceIte]
      (repeat' (first | (with_reducible refine And.intro ?_ ?_) | (with_reducible intro _)))
      all_goals try omega
      exact h1 ⟨hA, fun q hq => h q (by omega)⟩
    | succ f ih =>
      intro l hl h
      rw [e_35_34]
      simp (disch := omega) only [e_35_35, e_35_37, e_35_40, e_35_41, e_35_42, e_35_43, i_lit, i_add, i_mul, i_m1, i_lt, i_le, i_eq, i_cl, i_in, i_ltN, i_Nlt, i_leN, i_Nle, i_eN, i_Ne, i_inN, i_l1, i_l2, mj_cpok, mj_nn, reduceCtorEq, lg_self, Nat.not_lt_zero, Nat.zero_le, Nat.reduceEqDiff, Nat.reduceLT, Nat.reduceLeDiff, true_or, or_true, false_or, or_false, not_true_eq_false, not_false_eq_true, true_imp_iff, false_imp_iff, and_self, wrd, u2, and_true, true_and, and_false, false_and, and_self, ite_true, ite_false, reduceIte]
      (repeat' (first | (with_reducible refine And.intro ?_ ?_) | (with_reducible intro _)))
      all_goals try omega
      refine s_36 G hF' hk ha (by omega) ?_
      simp (disch := omega) only [mK_v, e_35_46, e_35_47, e_35_48, e_35_49, i_lit, i_add, i_mul, i_m1, i_lt, i_le, i_eq, i_cl, i_in, i_ltN, i_Nlt, i_leN, i_Nle, i_eN, i_Ne, i_inN, i_l1, i_l2, mj_cpok, mj_nn, reduceCtorEq, lg_self, Nat.not_lt_zero, Nat.zero_le, Nat.reduceEqDiff, Nat.reduceLT, Nat.reduceLeDiff, true_or, or_true, false_or, or_false, not_true_eq_false, not_false_eq_true, true_imp_iff, false_imp_iff, and_self, wrd, u2, and_true, true_and, and_false, false_and, and_self, ite_true, ite_false, reduceIte]
      refine s_36 G hF' hk hb (by omega) ?_
      simp (disch := omega) only [mK_v, e_35_52, e_35_55, e_35_56, e_35_57, e_35_60, i_lit, i_add, i_mul, i_m1, i_lt, i_le, i_eq, i_cl, i_in, i_ltN, i_Nlt, i_leN, i_Nle, i_eN, i_Ne, i_inN, i_l1, i_l2, mj_cpok, mj_nn, reduceCtorEq, lg_self, Nat.not_lt_zero, Nat.zero_le, Nat.reduceEqDiff, Nat.reduceLT, Nat.reduceLeDiff, true_or, or_true, false_or, or_false, not_true_eq_false, not_false_eq_true, true_imp_iff, false_imp_iff, and_self, wrd, u2, and_true, true_and, and_false, false_and, and_self, ite_true, ite_false, reduceIte]
      have hi := kdB_iff (x := mv (8 * a + l)) (y := mv (8 * b + l)) hL f2 (fun x hx => f6 _ x (by omega) hx) (fun x hx => f6 _ x (by omega) hx)
      refine ⟨fun he => ih (l + 1) (by omega) (fun q hq => ?_), fun he => h0 fun q => he (hi.mpr (q.2 l (by omega)))⟩
      by_cases hql : q = l
      · subst hql; exact hi.mp he
      · exact h q (by omega)
  have e1 := hk a ha
  have e2 := hk b hb
  have e3 := f4 a ha
  have e4 := f4 b hb
  have li := Lq_iff (hL a ha) (hL b hb)
  simp (disch := omega) only [e_35_0, e_35_1, e_35_4, e_35_5, e_35_6, e_35_7, e_35_10, e_35_11, e_35_12, e_35_15, e_35_16, e_35_19, e_35_20, e_35_21, e_35_22, e_35_25, e_35_26, e_35_27, e_35_30, e_35_31, e_35_32, e_35_33, e_35_35, e_35_37, e_35_40, e_35_41, e_35_42, e_35_43, e_35_46, e_35_47, e_35_48, e_35_49, e_35_52, e_35_55, e_35_56, e_35_57, e_35_60, e_35_63, e_35_64, i_lit, i_add, i_mul, i_m1, i_lt, i_le, i_eq, i_cl, i_in, i_ltN, i_Nlt, i_leN, i_Nle, i_eN, i_Ne, i_inN, i_l1, i_l2, mj_cpok, mj_nn, reduceCtorEq, lg_self, Nat.not_lt_zero, Nat.zero_le, Nat.reduceEqDiff, Nat.reduceLT, Nat.reduceLeDiff, true_or, or_true, false_or, or_false, not_true_eq_false, not_false_eq_true, true_imp_iff, false_imp_iff, and_self, wrd, u2, and_true, true_and, and_false, false_and, and_self, ite_true, ite_false, reduceIte, g_197 G, g_194 G, e1, e2, e3, e4]
  refine ⟨by omega, by omega, fun hne => h0 fun q => hne (li.mpr (Pq_mono k q)), fun he => ⟨by omega, by omega, fun hA => ?_, fun hA => h0 fun q => hA q.1⟩⟩
  exact loop hA 8 0 (by omega) (fun q hq => absurd hq (Nat.not_lt_zero q))
/-- one more letter: the finer kinds, and how many they are -/
theorem s_34 {k : Nat} (G : Gr w) (hF : KF w n A mv) (hk : ∀ i, i < n → wAI w 53 i = Int32.ofNat (kd i)) (hL : ∀ i, i < n → Lq A mv k i (kd i))
    (K : ∀ (w' : MWd) (kd' : Nat → Nat), Fr (fun _ _ => False) (fun a => a = 53 ∨ a = 54) 0 0 w w' → (∀ i, i < n → wAI w' 53 i = Int32.ofNat (kd' i)) → (∀ i, i < n → Lq A mv (k + 1) i (kd' i)) → Q (.inl (some (vI (Int32.ofNat (nK A mv n (k + 1)))))) w') :
    mR (d + 2) w 34 0 [some (vR (some (3, 0, 47))), none, none, none] [] Q := by
  have hF' := hF
  obtain ⟨f1, f2, f3, f4, f5, f6⟩ := hF
  have loop : ∀ (f s : Nat) (w' : MWd) (kd' : Nat → Nat) (l3 : Option MV), s + f = n → Fr (fun _ _ => False) (fun a => a = 54) 0 0 w w' → (∀ i, i < s → wAI w' 54 i = Int32.ofNat (kd' i)) → (∀ i, i < s → Lq A mv (k + 1) i (kd' i)) →
      mR (d + 2) w' 34 4 [some (vR (some (3, 0, 47))), some (vI (Int32.ofNat (cnt (rpB A mv (k + 1)) s))), some (vI (Int32.ofNat s)), l3] [] Q := by
    intro f
    induction f with
    | zero =>
      intro s w' kd' l3 hs hW g1 g2
      have he : s = n := by omega
      subst he
      have G' := Fr_Gr hW G
      have a201 : wFI w' 201 47 = Int32.ofNat s := (Fr_fi hW (by decide) (fun q => q)).trans f3
      rw [e_34_4]
      simp (disch := omega) only [e_34_0, e_34_1, e_34_2, e_34_3, e_34_5, e_34_6, e_34_9, e_34_12, e_34_13, e_34_15, e_34_18, e_34_19, e_34_22, e_34_23, e_34_24, e_34_25, e_34_26, e_34_28, e_34_29, e_34_32, e_34_33, e_34_36, e_34_37, e_34_38, e_34_39, e_34_42, e_34_43, e_34_44, e_34_45, e_34_48, e_34_51, e_34_52, e_34_55, e_34_56, e_34_57, e_34_58, e_34_61, e_34_64, e_34_67, e_34_68, e_34_69, e_34_72, e_34_73, e_34_74, e_34_75, e_34_78, e_34_79, e_34_82, e_34_83, e_34_84, e_34_85, e_34_88, e_34_91, e_34_92, e_34_95, e_34_96, e_34_97, e_34_100, e_34_101, e_34_103, e_34_103J, e_34_106, e_34_107, i_lit, i_add, i_mul, i_m1, i_lt, i_le, i_eq, i_cl, i_in, i_ltN, i_Nlt, i_leN, i_Nle, i_eN, i_Ne, i_inN, i_l1, i_l2, mj_cpok, mj_nn, reduceCtorEq, lg_self, Nat.not_lt_zero, Nat.zero_le, Nat.reduceEqDiff, Nat.reduceLT, Nat.reduceLeDiff, true_or, or_true, false_or, or_false, not_true_eq_false, not_false_eq_true, true_imp_iff, false_imp_iff, and_self, wrd, u2, and_true, true_and, and_false, false_and, and_self, ite_true, ite_false, reduceIte, a201, g_198 G', g_197 G']
      (repeat' (first | (with_reducible refine And.intro ?_ ?_) | (with_reducible intro _)))
      all_goals try omega
      refine K _ kd' (Fr_cpI (Fr_weak hW (fun _ _ q => q) (fun a q => Or.inr q) (Nat.le_refl 0) (Nat.le_refl 0)) (Or.inl (Or.inl rfl))) (fun i hi => ?_) g2
      simp only [mj_cpok, mj_nn, reduceCtorEq, lg_self, Nat.not_lt_zero, Nat.zero_le, Nat.reduceEqDiff, Nat.reduceLT, Nat.reduceLeDiff, true_or, or_true, false_or, or_false, not_true_eq_false, not_false_eq_true, true_imp_iff, false_imp_iff, and_self, wrd, u2, and_true, true_and, and_false, false_and, and_self, ite_true, ite_false, reduceIte]
      rw [if_pos (by omega), show 0 + (i - 0) = i by omega]; exact g1 i hi
    | succ f ih =>
      intro s w' kd' l3 hs hW g1 g2
      have G' := Fr_Gr hW G
      have hcn := cnt_le (rpB A mv (k + 1)) s
      have a201 : wFI w' 201 47 = Int32.ofNat n := (Fr_fi hW (by decide) (fun q => q)).trans f3
      -- the inner loop ends with the kind r
      have fin : ∀ (w'' : MWd) (r : Nat) (l3 : Int32), Fr (fun _ _ => False) (fun a => a = 54) 0 0 w w'' → (∀ i, i < s → wAI w'' 54 i = Int32.ofNat (kd' i)) → wAI w'' 54 s = Int32.ofNat r → Lq A mv (k + 1) s r →
          mR (d + 2) w'' 34 67 [some (vR (some (3, 0, 47))), some (vI (Int32.ofNat (cnt (rpB A mv (k + 1)) s))), some (vI (Int32.ofNat s)), some (vI l3)] [] Q := by
        intro w'' r l3 hW' g1' g2' g3'
        have hrs := g3'.1
        have G'' := Fr_Gr hW' G
        have nxt : ∀ c : Nat, c = cnt (rpB A mv (k + 1)) (s + 1) → mR (d + 2) w'' 34 4 [some (vR (some (3, 0, 47))), some (vI (Int32.ofNat c)), some (vI (Int32.ofNat (s + 1))), some (vI l3)] [] Q := by
          intro c hc
          subst hc
          refine ih (s + 1) w'' (fun i => if i = s then r else kd' i) _ (by omega) hW' (fun i hi => ?_) (fun i hi => ?_)
          · by_cases his : i = s
            · subst his; rw [if_pos rfl]; exact g2'
            · rw [if_neg his]; exact g1' i (by omega)
          · by_cases his : i = s
            · subst his; rw [if_pos rfl]; exact g3'
            · rw [if_neg his]; exact g2 i (by omega)
        have hrp : rpB A mv (k + 1) s = true ↔ r = s := by
          rw [rpB_iff]
          constructor
          · intro h
            by_cases hr : r < s
            · exact absurd g3'.2.1 (h r hr)
            · omega
          · rintro rfl; exact g3'.2.2
        by_cases hre : r = s
        · have := nxt (cnt (rpB A mv (k + 1)) s + 1) (by show _ = cnt _ s + (if rpB A mv (k + 1) s = true then 1 else 0); rw [if_pos (hrp.mpr hre)])
          subst hre
          simp (disch := omega) only [e_34_67, e_34_68, e_34_69, e_34_72, e_34_73, e_34_74, e_34_75, e_34_78, e_34_79, e_34_82, e_34_83, e_34_84, e_34_85, e_34_88, i_lit, i_add, i_mul, i_m1, i_lt, i_le, i_eq, i_cl, i_in, i_ltN, i_Nlt, i_leN, i_Nle, i_eN, i_Ne, i_inN, i_l1, i_l2, mj_cpok, mj_nn, reduceCtorEq, lg_self, Nat.not_lt_zero, Nat.zero_le, Nat.reduceEqDiff, Nat.reduceLT, Nat.reduceLeDiff, true_or, or_true, false_or, or_false, not_true_eq_false, not_false_eq_true, true_imp_iff, false_imp_iff, and_self, wrd, u2, and_true, true_and, and_false, false_and, and_self, ite_true, ite_false, reduceIte, g_198 G'', g2']
          (repeat' (first | (with_reducible refine And.intro ?_ ?_) | (with_reducible intro _)))
          all_goals first | omega | exact this
        · have := nxt (cnt (rpB A mv (k + 1)) s + 0) (by show _ = cnt _ s + (if rpB A mv (k + 1) s = true then 1 else 0); rw [if_neg (fun q => hre (hrp.mp q))])
          simp (disch := omega) only [e_34_67, e_34_68, e_34_69, e_34_72, e_34_73, e_34_74, e_34_75, e_34_78, e_34_79, e_34_82, e_34_83, e_34_84, e_34_85, e_34_88, i_lit, i_add, i_mul, i_m1, i_lt, i_le, i_eq, i_cl, i_in, i_ltN, i_Nlt, i_leN, i_Nle, i_eN, i_Ne, i_inN, i_l1, i_l2, mj_cpok, mj_nn, reduceCtorEq, lg_self, Nat.not_lt_zero, Nat.zero_le, Nat.reduceEqDiff, Nat.reduceLT, Nat.reduceLeDiff, true_or, or_true, false_or, or_false, not_true_eq_false, not_false_eq_true, true_imp_iff, false_imp_iff, and_self, wrd, u2, and_true, true_and, and_false, false_and, and_self, ite_true, ite_false, reduceIte, g_198 G'', g2', hre]
          (repeat' (first | (with_reducible refine And.intro ?_ ?_) | (with_reducible intro _)))
          all_goals first | omega | exact this
      have inner : ∀ (f' o : Nat) (w'' : MWd), o + f' = s → Fr (fun _ _ => False) (fun a => a = 54) 0 0 w w'' → (∀ i, i < s → wAI w'' 54 i = Int32.ofNat (kd' i)) → wAI w'' 54 s = Int32.ofNat s → (∀ j, j < o → ¬ Pq A mv (k + 1) j s) →
          mR (d + 2) w'' 34 27 [some (vR (some (3, 0, 47))), some (vI (Int32.ofNat (cnt (rpB A mv (k + 1)) s))), some (vI (Int32.ofNat s)), some (vI (Int32.ofNat o))] [] Q := by
        intro f'
        induction f' with
        | zero =>
          intro o w'' ho hW' g1' g2' g3'
          have hos : o = s := by omega
          subst hos
          rw [e_34_27]
          simp (disch := omega) only [e_34_28, e_34_29, i_lit, i_add, i_mul, i_m1, i_lt, i_le, i_eq, i_cl, i_in, i_ltN, i_Nlt, i_leN, i_Nle, i_eN, i_Ne, i_inN, i_l1, i_l2, mj_cpok, mj_nn, reduceCtorEq, lg_self, Nat.not_lt_zero, Nat.zero_le, Nat.reduceEqDiff, Nat.reduceLT, Nat.reduceLeDiff, true_or, or_true, false_or, or_false, not_true_eq_false, not_false_eq_true, true_imp_iff, false_imp_iff, and_self, wrd, u2, and_true, true_and, and_false, false_and, and_self, ite_true, ite_false, reduceIte]
          (repeat' (first | (with_reducible refine And.intro ?_ ?_) | (with_reducible intro _)))
          all_goals try omega
          exact fin w'' o _ hW' g1' g2' ⟨Nat.le_refl o, Pq_refl _ _, g3'⟩
        | succ f' ihf =>
          intro o w'' ho hW' g1' g2' g3'
          have G'' := Fr_Gr hW' G
          have eo := g1' o (by omega)
          have lo := g2 o (by omega)
          have lo1 := lo.1
          have hFW : KF w'' n A mv := ⟨f1, f2, (Fr_fi hW' (by decide) (fun q => q)).trans f3, by rw [Fr_ai hW' (by decide) (by decide)]; exact f4, by rw [Fr_ai hW' (by decide) (by decide)]; exact f5, f6⟩
          have hkW : ∀ i, i < n → wAI w'' 53 i = Int32.ofNat (kd i) := by rw [Fr_ai hW' (by decide) (by decide)]; exact hk
          have nxt : ¬ Pq A mv (k + 1) o s → mR (d + 2) w'' 34 27 [some (vR (some (3, 0, 47))), some (vI (Int32.ofNat (cnt (rpB A mv (k + 1)) s))), some (vI (Int32.ofNat s)), some (vI (Int32.ofNat (o + 1)))] [] Q := fun hno => ihf (o + 1) w'' (by omega) hW' g1' g2' (fun j hj => by
            by_cases hjo : j = o
            · subst hjo; exact hno
            · exact g3' j (by omega))
          rw [e_34_27]
          by_cases hko : kd' o = o
          · rw [hko] at eo
            simp (disch := omega) only [e_34_28, e_34_29, e_34_32, e_34_33, e_34_36, e_34_37, e_34_38, e_34_39, e_34_42, e_34_43, e_34_44, e_34_45, i_lit, i_add, i_mul, i_m1, i_lt, i_le, i_eq, i_cl, i_in, i_ltN, i_Nlt, i_leN, i_Nle, i_eN, i_Ne, i_inN, i_l1, i_l2, mj_cpok, mj_nn, reduceCtorEq, lg_self, Nat.not_lt_zero, Nat.zero_le, Nat.reduceEqDiff, Nat.reduceLT, Nat.reduceLeDiff, true_or, or_true, false_or, or_false, not_true_eq_false, not_false_eq_true, true_imp_iff, false_imp_iff, and_self, wrd, u2, and_true, true_and, and_false, false_and, and_self, ite_true, ite_false, reduceIte, g_198 G'', eo]
            (repeat' (first | (with_reducible refine And.intro ?_ ?_) | (with_reducible intro _)))
            all_goals try omega
            refine s_35 G'' hFW hkW hL (by omega) (by omega) (fun hp => ?_) (fun hp => ?_)
            · simp (disch := omega) only [mK_v, e_34_48, e_34_51, e_34_52, e_34_55, e_34_56, e_34_57, e_34_58, i_lit, i_add, i_mul, i_m1, i_lt, i_le, i_eq, i_cl, i_in, i_ltN, i_Nlt, i_leN, i_Nle, i_eN, i_Ne, i_inN, i_l1, i_l2, mj_cpok, mj_nn, reduceCtorEq, lg_self, Nat.not_lt_zero, Nat.zero_le, Nat.reduceEqDiff, Nat.reduceLT, Nat.reduceLeDiff, true_or, or_true, false_or, or_false, not_true_eq_false, not_false_eq_true, true_imp_iff, false_imp_iff, and_self, wrd, u2, and_true, true_and, and_false, false_and, and_self, ite_true, ite_false, reduceIte, g_198 G'']
              (repeat' (first | (with_reducible refine And.intro ?_ ?_) | (with_reducible intro _)))
              all_goals try omega
              refine fin _ o _ (Fr_sAI hW' (Or.inl rfl)) (fun i hi => ?_) (by simp only [mj_cpok, mj_nn, reduceCtorEq, lg_self, Nat.not_lt_zero, Nat.zero_le, Nat.reduceEqDiff, Nat.reduceLT, Nat.reduceLeDiff, true_or, or_true, false_or, or_false, not_true_eq_false, not_false_eq_true, true_imp_iff, false_imp_iff, and_self, wrd, u2, and_true, true_and, and_false, false_and, and_self, ite_true, ite_false, reduceIte]) ⟨by omega, Pq_symm _ hp, fun j hj => g3' j hj⟩
              simp only [mj_cpok, mj_nn, reduceCtorEq, lg_self, Nat.not_lt_zero, Nat.zero_le, Nat.reduceEqDiff, Nat.reduceLT, Nat.reduceLeDiff, true_or, or_true, false_or, or_false, not_true_eq_false, not_false_eq_true, true_imp_iff, false_imp_iff, and_self, wrd, u2, and_true, true_and, and_false, false_and, and_self, ite_true, ite_false, reduceIte]
              rw [if_neg (by omega)]; exact g1' i hi
            · simp (disch := omega) only [mK_v, e_34_48, e_34_61, e_34_64, i_lit, i_add, i_mul, i_m1, i_lt, i_le, i_eq, i_cl, i_in, i_ltN, i_Nlt, i_leN, i_Nle, i_eN, i_Ne, i_inN, i_l1, i_l2, mj_cpok, mj_nn, reduceCtorEq, lg_self, Nat.not_lt_zero, Nat.zero_le, Nat.reduceEqDiff, Nat.reduceLT, Nat.reduceLeDiff, true_or, or_true, false_or, or_false, not_true_eq_false, not_false_eq_true, true_imp_iff, false_imp_iff, and_self, wrd, u2, and_true, true_and, and_false, false_and, and_self, ite_true, ite_false, reduceIte]
              (repeat' (first | (with_reducible refine And.intro ?_ ?_) | (with_reducible intro _)))
              all_goals try omega
              exact nxt fun q => hp (Pq_symm _ q)
          · have nn := nxt (fun q => by
              have h9 := g3' (kd' o) (by omega)
              exact h9 (Pq_trans _ lo.2.1 q))
            simp (disch := omega) only [e_34_28, e_34_29, e_34_32, e_34_33, e_34_36, e_34_37, e_34_38, e_34_39, e_34_61, e_34_64, i_lit, i_add, i_mul, i_m1, i_lt, i_le, i_eq, i_cl, i_in, i_ltN, i_Nlt, i_leN, i_Nle, i_eN, i_Ne, i_inN, i_l1, i_l2, mj_cpok, mj_nn, reduceCtorEq, lg_self, Nat.not_lt_zero, Nat.zero_le, Nat.reduceEqDiff, Nat.reduceLT, Nat.reduceLeDiff, true_or, or_true, false_or, or_false, not_true_eq_false, not_false_eq_true, true_imp_iff, false_imp_iff, and_self, wrd, u2, and_true, true_and, and_false, false_and, and_self, ite_true, ite_false, reduceIte, g_198 G'', eo, hko]
            (repeat' (first | (with_reducible refine And.intro ?_ ?_) | (with_reducible intro _)))
            all_goals first | omega | exact nn
      rw [e_34_4]
      simp (disch := omega) only [e_34_5, e_34_6, e_34_9, e_34_12, e_34_13, e_34_15, e_34_18, e_34_19, e_34_22, e_34_23, e_34_24, e_34_25, e_34_26, i_lit, i_add, i_mul, i_m1, i_lt, i_le, i_eq, i_cl, i_in, i_ltN, i_Nlt, i_leN, i_Nle, i_eN, i_Ne, i_inN, i_l1, i_l2, mj_cpok, mj_nn, reduceCtorEq, lg_self, Nat.not_lt_zero, Nat.zero_le, Nat.reduceEqDiff, Nat.reduceLT, Nat.reduceLeDiff, true_or, or_true, false_or, or_false, not_true_eq_false, not_false_eq_true, true_imp_iff, false_imp_iff, and_self, wrd, u2, and_true, true_and, and_false, false_and, and_self, ite_true, ite_false, reduceIte, a201, g_198 G']
      (repeat' (first | (with_reducible refine And.intro ?_ ?_) | (with_reducible intro _)))
      all_goals try omega
      refine inner s 0 _ (by omega) (Fr_sAI hW (Or.inl rfl)) (fun i hi => ?_) (by simp only [mj_cpok, mj_nn, reduceCtorEq, lg_self, Nat.not_lt_zero, Nat.zero_le, Nat.reduceEqDiff, Nat.reduceLT, Nat.reduceLeDiff, true_or, or_true, false_or, or_false, not_true_eq_false, not_false_eq_true, true_imp_iff, false_imp_iff, and_self, wrd, u2, and_true, true_and, and_false, false_and, and_self, ite_true, ite_false, reduceIte]) (fun j hj => absurd hj (Nat.not_lt_zero j))
      simp only [mj_cpok, mj_nn, reduceCtorEq, lg_self, Nat.not_lt_zero, Nat.zero_le, Nat.reduceEqDiff, Nat.reduceLT, Nat.reduceLeDiff, true_or, or_true, false_or, or_false, not_true_eq_false, not_false_eq_true, true_imp_iff, false_imp_iff, and_self, wrd, u2, and_true, true_and, and_false, false_and, and_self, ite_true, ite_false, reduceIte]
      rw [if_neg (by omega)]; exact g1 i hi
  rw [e_34_0, e_34_1, e_34_2, e_34_3]
  exact loop n 0 w (fun _ => 0) none (by omega) Fr_refl (fun i hi => absurd hi (Nat.not_lt_zero i)) (fun i hi => absurd hi (Nat.not_lt_zero i))
end CK
