/-! build: the class numbers all its kinds. -/
theorem updN_at {O : Nat → Nat} {m c : Nat} : updN O m c m = c := if_pos rfl
theorem updN_ne {O : Nat → Nat} {m c k : Nat} (h : k ≠ m) : updN O m c k = O k := if_neg h
section CN
variable {d n e m : Nat} {w : MWd} {Q : MRes → MWd → Prop} {A : Nat → Int32} {mv : Nat → Option Nat} {kd : Nat → Nat}
def nuA (e m a : Nat) : Prop := a = 55 ∨ a = 56 ∨ (e + 3 + 8 * m ≤ a ∧ a ≤ e + 7 + 8 * m)
abbrev nuFr (e m : Nat) (w w' : MWd) : Prop := Fr (fun k a => k = 71 ∧ a = e + 2 + 8 * m) (nuA e m) 0 0 w w'
def nuI (w : MWd) (e m n : Nat) (A : Nat → Int32) (kd : Nat → Nat) (mv : Nat → Option Nat) (t : Nat) (W : MWd) : Prop :=
  nuFr e m w W ∧ wFI W 71 (e + 2 + 8 * m) = Int32.ofNat (nSt kd mv t).1 ∧
  (∀ k, k < (nSt kd mv t).1 → wAI W 56 k = Int32.ofNat ((nSt kd mv t).2 k) ∧ wAI W 55 ((nSt kd mv t).2 k) = Int32.ofNat k ∧ wAI W (e + 4 + 8 * m) k = A ((nSt kd mv t).2 k)) ∧
  (∀ c, c < n → (∀ k, k < (nSt kd mv t).1 → (nSt kd mv t).2 k ≠ c) → wAI W 55 c = NN) ∧
  ∃ T dep : Nat → Nat, dep 0 = 0 ∧ (∀ k, 1 ≤ k → k < (nSt kd mv t).1 → T k < t ∧ (nSt kd mv (T k)).1 = k ∧ (nSt kd mv (T k + 1)).1 = k + 1 ∧ dep k = dep (T k / 8) + 1 ∧ wAI W (e + 5 + 8 * m) k = Int32.ofNat (T k / 8) ∧ wAI W (e + 6 + 8 * m) k = Int32.ofNat (T k % 8)) ∧
    (∀ k, k < (nSt kd mv t).1 → wAI W (e + 7 + 8 * m) k = Int32.ofNat (dep k) ∧ dep k ≤ k)
def nuM (e m : Nat) (kd : Nat → Nat) (mv : Nat → Option Nat) (t : Nat) (W : MWd) : Prop := ∀ q, q < t → wAI W (e + 3 + 8 * m) q = en (nMv kd mv q)
theorem nSt_bd (hkl : ∀ i, i < n → kd i < n) (hn : 1 ≤ n) (h6 : ∀ t a, t < 8 * n → mv t = some a → a < n) {t : Nat} (hP : ∀ q, q < t → q / 8 < (nSt kd mv q).1) : (∀ k, k < (nSt kd mv t).1 → (nSt kd mv t).2 k < n) ∧ (nSt kd mv t).1 ≤ n := by
  have hv : ∀ k, k < (nSt kd mv t).1 → (nSt kd mv t).2 k < n := by
    rcases nSt_val hkl hn h6 t with h | ⟨q, hq, hq2⟩
    · exact h
    · have := hP q hq; omega
  exact ⟨hv, pigeon hv (nSt_inj t)⟩
theorem run_lt {t s : Nat} (hP : ∀ q, q ≤ s → q < (nSt kd mv (8 * q)).1) (ht : t ≤ 8 * s + 8) : ∀ q, q < t → q / 8 < (nSt kd mv q).1 := by
  intro q hq
  have h1 := hP (q / 8) (by omega)
  have h2 := nSt_mono (kd := kd) (mv := mv) (show 8 * (q / 8) ≤ q by omega)
  omega
theorem s_38N {P L : Int32} (h : Q (.inl (some (vI NN))) w) : mR (d + 2) w 38 0 [some (vR (some (3, 0, 47))), some (vR (some (1, 0, e + 2 + 8 * m))), some (vI NN), some (vI P), some (vI L), none] [] Q := by
  have h0 : NN < Int32.ofNat 0 := (i_Nlt (by omega)).mpr trivial
  simp (disch := omega) only [e_38_0, e_38_1, e_38_4, e_38_5, e_38_7, e_38_10, e_38_11, e_38_12, e_38_13, e_38_16, e_38_17, e_38_18, e_38_19, e_38_22, e_38_23, e_38_24, e_38_27, e_38_28, e_38_29, e_38_30, e_38_32, e_38_35, e_38_37, e_38_39, e_38_42, e_38_44, e_38_46, e_38_49, e_38_50, e_38_53, e_38_54, e_38_56, e_38_57, e_38_58, e_38_61, e_38_63, e_38_64, e_38_65, e_38_66, e_38_69, e_38_70, e_38_71, i_lit, i_add, i_mul, i_m1, i_lt, i_le, i_eq, i_cl, i_in, i_ltN, i_Nlt, i_leN, i_Nle, i_eN, i_Ne, i_inN, i_l1, i_l2, mj_cpok, mj_nn, reduceCtorEq, lg_self, Nat.not_lt_zero, Nat.zero_le, Nat.reduceEqDiff, Nat.reduceLT, Nat.reduceLeDiff, true_or, or_true, false_or, or_false, not_true_eq_false, not_false_eq_true, true_imp_iff, false_imp_iff, and_self, wrd, u2, and_true, true_and, and_false, false_and, and_self, ite_true, ite_false, reduceIte, h0]
  (repeat' (first | (with_reducible refine And.intro ?_ ?_) | (with_reducible intro _)))
  all_goals first | omega | exact h
/-- a kind that has no number yet -/
theorem nuI_new {t c : Nat} {W : MWd} {P L D : Int32} {T0 dp : Nat} (he : e = 60 ∨ e = 94) (hm : m < 4) (hI : nuI w e m n A kd mv t W) (hb : (nSt kd mv t).1 ≤ n) (hn : n ≤ 100) (hP : ∀ q, q < t → q / 8 < (nSt kd mv q).1) (hs : t / 8 < (nSt kd mv t).1) (hc : c < n) (hA : ∀ s, s < n → wAI w 50 s = A s)
    (hst : nSt kd mv (t + 1) = ((nSt kd mv t).1 + 1, updN (nSt kd mv t).2 (nSt kd mv t).1 c)) (hne : ∀ k, k < (nSt kd mv t).1 → (nSt kd mv t).2 k ≠ c)
    (h1 : P = Int32.ofNat (t / 8)) (h2 : L = Int32.ofNat (t % 8)) (h3 : ∀ dp, wAI W (e + 7 + 8 * m) (t / 8) = Int32.ofNat dp → dp ≤ t / 8 → D = Int32.ofNat (dp + 1)) :
    nuI w e m n A kd mv (t + 1) (nw38 W e m (nSt kd mv t).1 c (wAI W 50 c) P L D) := by
  obtain ⟨hF, i1, i2, i3, T, dep, i4, i5, i6⟩ := hI
  have hd := h3 _ (i6 _ hs).1 (i6 _ hs).2
  have a50 : wAI W 50 = wAI w 50 := Fr_ai hF (by decide) (by unfold nuA; omega)
  have q1 : ∀ k, k < (nSt kd mv t).1 → (updN (nSt kd mv t).2 (nSt kd mv t).1 c) k = (nSt kd mv t).2 k := fun k hk => if_neg (by omega)
  have q2 : (updN (nSt kd mv t).2 (nSt kd mv t).1 c) (nSt kd mv t).1 = c := if_pos rfl
  unfold nuI
  rw [hst]
  unfold nw38
  refine ⟨?_, ?_, fun k hk => ?_, fun c' hc' hne' => ?_, updN T (nSt kd mv t).1 t, updN dep (nSt kd mv t).1 (dep (t / 8) + 1), ?_, fun k hk1 hk => ?_, fun k hk => ?_⟩
  · exact Fr_sAI (Fr_sAI (Fr_sFI (Fr_sAI (Fr_sAI (Fr_sAI (Fr_sAI hF (Or.inl (by unfold nuA; omega))) (Or.inl (by unfold nuA; omega))) (Or.inl (by unfold nuA; omega))) (Or.inl (by unfold nuA; omega))) (Or.inl ⟨rfl, rfl⟩)) (Or.inl (by unfold nuA; omega))) (Or.inl (by unfold nuA; omega))
  · simp only [mj_cpok, mj_nn, reduceCtorEq, lg_self, Nat.not_lt_zero, Nat.zero_le, Nat.reduceEqDiff, Nat.reduceLT, Nat.reduceLeDiff, true_or, or_true, false_or, or_false, not_true_eq_false, not_false_eq_true, true_imp_iff, false_imp_iff, and_self, wrd, u2, and_true, true_and, and_false, false_and, and_self, ite_true, ite_false, reduceIte]
  · have hk' : k < (nSt kd mv t).1 + 1 := hk
    show _ = Int32.ofNat ((updN (nSt kd mv t).2 (nSt kd mv t).1 c) k) ∧ wAI _ 55 ((updN (nSt kd mv t).2 (nSt kd mv t).1 c) k) = _ ∧ _ = A ((updN (nSt kd mv t).2 (nSt kd mv t).1 c) k)
    by_cases hkn : k = (nSt kd mv t).1
    · rw [hkn, q2]
      simp (disch := omega) only [mj_cpok, mj_nn, reduceCtorEq, lg_self, Nat.not_lt_zero, Nat.zero_le, Nat.reduceEqDiff, Nat.reduceLT, Nat.reduceLeDiff, true_or, or_true, false_or, or_false, not_true_eq_false, not_false_eq_true, true_imp_iff, false_imp_iff, and_self, wrd, u2, and_true, true_and, and_false, false_and, and_self, ite_true, ite_false, reduceIte, if_neg, if_pos]
      rw [a50]; exact hA c hc
    · rw [q1 k (by omega)]
      have := i2 k (by omega)
      have hck := hne k (by omega)
      simp (disch := omega) only [mj_cpok, mj_nn, reduceCtorEq, lg_self, Nat.not_lt_zero, Nat.zero_le, Nat.reduceEqDiff, Nat.reduceLT, Nat.reduceLeDiff, true_or, or_true, false_or, or_false, not_true_eq_false, not_false_eq_true, true_imp_iff, false_imp_iff, and_self, wrd, u2, and_true, true_and, and_false, false_and, and_self, ite_true, ite_false, reduceIte, if_neg, if_pos, hkn, hck]
      exact this
  · have hcc : ¬ c' = c := by
      have := hne' (nSt kd mv t).1 (Nat.lt_succ_self _)
      intro q; exact this (by rw [q]; exact q2)
    simp (disch := omega) only [mj_cpok, mj_nn, reduceCtorEq, lg_self, Nat.not_lt_zero, Nat.zero_le, Nat.reduceEqDiff, Nat.reduceLT, Nat.reduceLeDiff, true_or, or_true, false_or, or_false, not_true_eq_false, not_false_eq_true, true_imp_iff, false_imp_iff, and_self, wrd, u2, and_true, true_and, and_false, false_and, and_self, ite_true, ite_false, reduceIte, if_neg, if_pos, hcc]
    exact i3 c' hc' fun k hk => by
      have := hne' k (Nat.lt_succ_of_lt hk)
      intro q; exact this (by rw [← q]; exact q1 k hk)
  · rw [updN_ne (by omega)]; exact i4
  · have hk' : k < (nSt kd mv t).1 + 1 := hk
    by_cases hkn : k = (nSt kd mv t).1
    · subst hkn
      rw [updN_at, updN_at, updN_ne (by omega)]
      refine ⟨by omega, rfl, by rw [hst], rfl, ?_, ?_⟩
      · simp (disch := omega) only [mj_cpok, mj_nn, reduceCtorEq, lg_self, Nat.not_lt_zero, Nat.zero_le, Nat.reduceEqDiff, Nat.reduceLT, Nat.reduceLeDiff, true_or, or_true, false_or, or_false, not_true_eq_false, not_false_eq_true, true_imp_iff, false_imp_iff, and_self, wrd, u2, and_true, true_and, and_false, false_and, and_self, ite_true, ite_false, reduceIte, if_neg, if_pos]; exact h1
      · simp (disch := omega) only [mj_cpok, mj_nn, reduceCtorEq, lg_self, Nat.not_lt_zero, Nat.zero_le, Nat.reduceEqDiff, Nat.reduceLT, Nat.reduceLeDiff, true_or, or_true, false_or, or_false, not_true_eq_false, not_false_eq_true, true_imp_iff, false_imp_iff, and_self, wrd, u2, and_true, true_and, and_false, false_and, and_self, ite_true, ite_false, reduceIte, if_neg, if_pos]; exact h2
    · obtain ⟨j1, j2, j3, j4, j5, j6⟩ := i5 k hk1 (by omega)
      have hTk := hP (T k) j1
      rw [updN_ne hkn, updN_ne hkn, updN_ne (by omega)]
      refine ⟨by omega, j2, j3, j4, ?_, ?_⟩
      · simp (disch := omega) only [mj_cpok, mj_nn, reduceCtorEq, lg_self, Nat.not_lt_zero, Nat.zero_le, Nat.reduceEqDiff, Nat.reduceLT, Nat.reduceLeDiff, true_or, or_true, false_or, or_false, not_true_eq_false, not_false_eq_true, true_imp_iff, false_imp_iff, and_self, wrd, u2, and_true, true_and, and_false, false_and, and_self, ite_true, ite_false, reduceIte, if_neg, if_pos, hkn]; exact j5
      · simp (disch := omega) only [mj_cpok, mj_nn, reduceCtorEq, lg_self, Nat.not_lt_zero, Nat.zero_le, Nat.reduceEqDiff, Nat.reduceLT, Nat.reduceLeDiff, true_or, or_true, false_or, or_false, not_true_eq_false, not_false_eq_true, true_imp_iff, false_imp_iff, and_self, wrd, u2, and_true, true_and, and_false, false_and, and_self, ite_true, ite_false, reduceIte, if_neg, if_pos, hkn]; exact j6
  · have hk' : k < (nSt kd mv t).1 + 1 := hk
    by_cases hkn : k = (nSt kd mv t).1
    · rw [hkn, updN_at]
      have hdd := (i6 _ hs).2
      refine ⟨?_, by omega⟩
      simp (disch := omega) only [mj_cpok, mj_nn, reduceCtorEq, lg_self, Nat.not_lt_zero, Nat.zero_le, Nat.reduceEqDiff, Nat.reduceLT, Nat.reduceLeDiff, true_or, or_true, false_or, or_false, not_true_eq_false, not_false_eq_true, true_imp_iff, false_imp_iff, and_self, wrd, u2, and_true, true_and, and_false, false_and, and_self, ite_true, ite_false, reduceIte, if_neg, if_pos]; exact hd
    · rw [updN_ne hkn]
      simp (disch := omega) only [mj_cpok, mj_nn, reduceCtorEq, lg_self, Nat.not_lt_zero, Nat.zero_le, Nat.reduceEqDiff, Nat.reduceLT, Nat.reduceLeDiff, true_or, or_true, false_or, or_false, not_true_eq_false, not_false_eq_true, true_imp_iff, false_imp_iff, and_self, wrd, u2, and_true, true_and, and_false, false_and, and_self, ite_true, ite_false, reduceIte, if_neg, if_pos, hkn]
      exact i6 k (by omega)
end CN
