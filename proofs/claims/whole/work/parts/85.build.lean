/-! build: one mode. -/
/-- the answers of the sets, and what machine a mode has -/
noncomputable def stA (w : MWd) (nr m n : Nat) (s : Nat) : Int32 := en (ansF w nr m ((sSt (nxF w nr m) (8 * n)).2 s) 12)
def isM (w : MWd) (nr m N : Nat) (mvN an : Nat → Option Nat) : Prop := ∃ n, sEnd (nxF w nr m) n ∧ ((n = 1 ∧ N = 0) ∨ (2 ≤ n ∧ ∃ kd : Nat → Nat, (∀ i, i < n → Le (stA w nr m n) (sMv (nxF w nr m)) i (kd i)) ∧ nEnd kd (sMv (nxF w nr m)) N ∧ mvN = nMv kd (sMv (nxF w nr m)) ∧
  ∀ s, s < N → an s = ansF w nr m ((sSt (nxF w nr m) (8 * n)).2 ((nSt kd (sMv (nxF w nr m)) (8 * N)).2 s)) 12))
theorem sMv_in {w : MWd} {nr m n : Nat} (h : sEnd (nxF w nr m) n) : ∀ t a, t < 8 * n → sMv (nxF w nr m) t = some a → a < n := fun t a ht ha => (sMv_some h ht ha).2.1
/-- what the rows of a machine of set e hold -/
def MachR (w : MWd) (e m n : Nat) (mv : Nat → Option Nat) : Prop := ∃ T dep, BF n mv T dep ∧
  (∀ k, 1 ≤ k → k < n → wAI w (e + 5 + 8 * m) k = Int32.ofNat (T k / 8) ∧ wAI w (e + 6 + 8 * m) k = Int32.ofNat (T k % 8)) ∧ (∀ k, k < n → wAI w (e + 7 + 8 * m) k = Int32.ofNat (dep k))
def bdA (e a : Nat) : Prop := (48 ≤ a ∧ a ≤ 56) ∨ (e + 2 ≤ a ∧ a < e + 34)
def bdF (e k a : Nat) : Prop := (k = 201 ∧ a = 47) ∨ (e + 2 ≤ a ∧ a < e + 34)
abbrev bdFr (e : Nat) (w w' : MWd) : Prop := Fr (bdF e) (bdA e) 0 0 w w'
theorem bdFr_t {e : Nat} {w w' w'' : MWd} (h : bdFr e w w') (h' : bdFr e w' w'') : bdFr e w w'' := Fr_trans (x := 0) (y := 0) (x' := 0) (y' := 0) h h'
section BD
variable {d : Nat} {w : MWd} {Q : MRes → MWd → Prop}
theorem s_27 {nr m e : Nat} (G : Gr w) (he : e = 60 ∨ e = 94) (hm : m < 4) (hnr : nr ≤ 12) (hr : wFI w 385 4 = Int32.ofNat nr)
    (K1 : ∀ W N mvN an, Fr (fun k a => (k = 201 ∧ a = 47) ∨ (k = 71 ∧ a = e + 2 + 8 * m)) (fun a => (48 ≤ a ∧ a ≤ 56) ∨ (e + 3 + 8 * m ≤ a ∧ a ≤ e + 7 + 8 * m)) 0 0 w W → isM w nr m N mvN an → ClsA W e m N mvN an → MachR W e m N mvN → Q (.inl (some (vI (Int32.ofNat 1)))) W)
    (K0 : ∀ W, Fr (fun k a => (k = 201 ∧ a = 47) ∨ (k = 71 ∧ a = e + 2 + 8 * m)) (fun a => (48 ≤ a ∧ a ≤ 56) ∨ (e + 3 + 8 * m ≤ a ∧ a ≤ e + 7 + 8 * m)) 0 0 w W → sBad (nxF w nr m) → Q (.inl (some (vI (Int32.ofNat 0)))) W) :
    mR (d + 5) w 27 0 [some (vR (some (3, 0, 47))), some (vR (some (6, 0, 4))), some (vI (Int32.ofNat m)), some (vR (some (1, 0, e + 2 + 8 * m)))] [] Q := by
  simp (disch := omega) only [e_27_0, e_27_1, e_27_4, e_27_5, e_27_6, e_27_7, i_lit, i_add, i_mul, i_m1, i_lt, i_le, i_eq, i_cl, i_in, i_ltN, i_Nlt, i_leN, i_Nle, i_eN, i_Ne, i_inN, i_l1, i_l2, mj_cpok, mj_nn, reduceCtorEq, lg_self, Nat.not_lt_zero, Nat.zero_le, Nat.reduceEqDiff, Nat.reduceLT, Nat.reduceLeDiff, true_or, or_true, false_or, or_false, not_true_eq_false, not_false_eq_true, true_imp_iff, false_imp_iff, and_self, wrd, u2, and_true, true_and, and_false, false_and, and_self, ite_true, ite_false, reduceIte]
  refine s_28 G hnr hr hm (fun W n hE hI hA => ?_) (fun W hF hB => ?_)
  · obtain ⟨hF, i1, i2, i3, i4⟩ := hI
    have hn1 := sEnd_pos hE
    have hn2 := hE.2.2
    have hz : (sSt (nxF w nr m) (8 * n)).1 = n := hE.2.1
    have hKF : KF W n (stA w nr m n) (sMv (nxF w nr m)) := ⟨hn1, hn2, by rw [i2, hz], fun s hs => hA s hs, i4, sMv_in hE⟩
    simp (disch := omega) only [mK_v, e_27_10, e_27_15, e_27_16, i_lit, i_add, i_mul, i_m1, i_lt, i_le, i_eq, i_cl, i_in, i_ltN, i_Nlt, i_leN, i_Nle, i_eN, i_Ne, i_inN, i_l1, i_l2, mj_cpok, mj_nn, reduceCtorEq, lg_self, Nat.not_lt_zero, Nat.zero_le, Nat.reduceEqDiff, Nat.reduceLT, Nat.reduceLeDiff, true_or, or_true, false_or, or_false, not_true_eq_false, not_false_eq_true, true_imp_iff, false_imp_iff, and_self, wrd, u2, and_true, true_and, and_false, false_and, and_self, ite_true, ite_false, reduceIte]
    refine s_33 (Fr_Gr hF G) hKF (fun W1 kd f1 k1 k2 => ?_)
    have hF1 : Fr (fun k a => k = 201 ∧ a = 47) (fun a => 48 ≤ a ∧ a ≤ 56) 0 0 w W1 := Fr_trans (x := 0) (y := 0) (x' := 0) (y' := 0) (Fr_weak hF (fun _ _ q => q) (fun a q => by unfold R28 at q; omega) (Nat.le_refl 0) (Nat.le_refl 0)) (Fr_weak f1 (fun _ _ q => q.elim) (fun a q => by omega) (Nat.le_refl 0) (Nat.le_refl 0))
    have hKF1 : KF W1 n (stA w nr m n) (sMv (nxF w nr m)) := by
      obtain ⟨a1, a2, a3, a4, a5, a6⟩ := hKF
      exact ⟨a1, a2, (Fr_fi f1 (by decide) (fun q => q)).trans a3, by rw [Fr_ai f1 (by decide) (by decide)]; exact a4, by rw [Fr_ai f1 (by decide) (by decide)]; exact a5, a6⟩
    have hkl : ∀ i, i < n → kd i < n := fun i hi => by have := (k2 i hi).1; omega
    have G1 := Fr_Gr hF1 G
    simp (disch := omega) only [mK_n, e_27_19, e_27_20, e_27_21, i_lit, i_add, i_mul, i_m1, i_lt, i_le, i_eq, i_cl, i_in, i_ltN, i_Nlt, i_leN, i_Nle, i_eN, i_Ne, i_inN, i_l1, i_l2, mj_cpok, mj_nn, reduceCtorEq, lg_self, Nat.not_lt_zero, Nat.zero_le, Nat.reduceEqDiff, Nat.reduceLT, Nat.reduceLeDiff, true_or, or_true, false_or, or_false, not_true_eq_false, not_false_eq_true, true_imp_iff, false_imp_iff, and_self, wrd, u2, and_true, true_and, and_false, false_and, and_self, ite_true, ite_false, reduceIte]
    by_cases h2 : 2 ≤ n
    · refine s_37b G1 he hm hKF1 k1 hkl h2 (fun W2 N hN hN1 hI2 hM2 => ?_)
      have hI2' := hI2
      obtain ⟨f2, j1, j2, j3, T, dep, j4, j5, j6⟩ := hI2
      have hNz : (nSt kd (sMv (nxF w nr m)) (8 * N)).1 = N := hN.2
      simp (disch := omega) only [mK_n, e_27_24, e_27_25, i_lit, i_add, i_mul, i_m1, i_lt, i_le, i_eq, i_cl, i_in, i_ltN, i_Nlt, i_leN, i_Nle, i_eN, i_Ne, i_inN, i_l1, i_l2, mj_cpok, mj_nn, reduceCtorEq, lg_self, Nat.not_lt_zero, Nat.zero_le, Nat.reduceEqDiff, Nat.reduceLT, Nat.reduceLeDiff, true_or, or_true, false_or, or_false, not_true_eq_false, not_false_eq_true, true_imp_iff, false_imp_iff, and_self, wrd, u2, and_true, true_and, and_false, false_and, and_self, ite_true, ite_false, reduceIte]
      rw [hNz] at j1 j2 j5 j6
      refine K1 W2 N (nMv kd (sMv (nxF w nr m))) (fun s => ansF w nr m ((sSt (nxF w nr m) (8 * n)).2 ((nSt kd (sMv (nxF w nr m)) (8 * N)).2 s)) 12) ?_ ⟨n, hE, Or.inr ⟨h2, kd, k2, hN, rfl, fun s _ => rfl⟩⟩ ⟨hN1, j1, fun s hs => (j2 s hs).2.2, fun s l hs hl => hM2 _ (by omega)⟩ ⟨T, dep, BF_of hN j4 (fun k h9 h10 => ?_), fun k h9 h10 => (j5 k h9 h10).2.2.2.2, fun k hk => (j6 k hk).1⟩
      · exact Fr_trans (x := 0) (y := 0) (x' := 0) (y' := 0) (Fr_weak hF1 (fun _ _ q => Or.inl q) (fun a q => Or.inl q) (Nat.le_refl 0) (Nat.le_refl 0)) (Fr_weak f2 (fun _ _ q => Or.inr q) (fun a q => by unfold nuA at q; omega) (Nat.le_refl 0) (Nat.le_refl 0))
      · obtain ⟨b1, b2, b3, b4, -⟩ := j5 k h9 h10
        exact ⟨b1, b2, b3, b4⟩
    · have hn : n = 1 := by omega
      have e1 : wFI W1 201 47 = Int32.ofNat 1 := by rw [hKF1.2.2.1, hn]
      refine s_37a G1 he hm e1 ?_
      simp (disch := omega) only [mK_n, e_27_24, e_27_25, i_lit, i_add, i_mul, i_m1, i_lt, i_le, i_eq, i_cl, i_in, i_ltN, i_Nlt, i_leN, i_Nle, i_eN, i_Ne, i_inN, i_l1, i_l2, mj_cpok, mj_nn, reduceCtorEq, lg_self, Nat.not_lt_zero, Nat.zero_le, Nat.reduceEqDiff, Nat.reduceLT, Nat.reduceLeDiff, true_or, or_true, false_or, or_false, not_true_eq_false, not_false_eq_true, true_imp_iff, false_imp_iff, and_self, wrd, u2, and_true, true_and, and_false, false_and, and_self, ite_true, ite_false, reduceIte]
      refine K1 _ 0 (fun _ => none) (fun _ => none) ?_ ⟨n, hE, Or.inl ⟨hn, rfl⟩⟩ ⟨by decide, by simp only [mj_cpok, mj_nn, reduceCtorEq, lg_self, Nat.not_lt_zero, Nat.zero_le, Nat.reduceEqDiff, Nat.reduceLT, Nat.reduceLeDiff, true_or, or_true, false_or, or_false, not_true_eq_false, not_false_eq_true, true_imp_iff, false_imp_iff, and_self, wrd, u2, and_true, true_and, and_false, false_and, and_self, ite_true, ite_false, reduceIte], fun s hs => absurd hs (Nat.not_lt_zero s), fun s l hs => absurd hs (Nat.not_lt_zero s)⟩ ⟨fun _ => 0, fun _ => 0, ⟨rfl, fun k h1 h2 => absurd h2 (Nat.not_lt_zero k), fun k k' _ _ h => absurd h (Nat.not_lt_zero k'), fun t k h => absurd h (Nat.not_lt_zero t)⟩, fun k _ h => absurd h (Nat.not_lt_zero k), fun k h => absurd h (Nat.not_lt_zero k)⟩
      exact Fr_sFI (Fr_weak hF1 (fun _ _ q => Or.inl q) (fun a q => Or.inl q) (Nat.le_refl 0) (Nat.le_refl 0)) (Or.inl (Or.inr ⟨rfl, rfl⟩))
  · simp (disch := omega) only [mK_v, e_27_10, e_27_13, e_27_14, i_lit, i_add, i_mul, i_m1, i_lt, i_le, i_eq, i_cl, i_in, i_ltN, i_Nlt, i_leN, i_Nle, i_eN, i_Ne, i_inN, i_l1, i_l2, mj_cpok, mj_nn, reduceCtorEq, lg_self, Nat.not_lt_zero, Nat.zero_le, Nat.reduceEqDiff, Nat.reduceLT, Nat.reduceLeDiff, true_or, or_true, false_or, or_false, not_true_eq_false, not_false_eq_true, true_imp_iff, false_imp_iff, and_self, wrd, u2, and_true, true_and, and_false, false_and, and_self, ite_true, ite_false, reduceIte]
    exact K0 W (Fr_weak hF (fun _ _ q => Or.inl q) (fun a q => by unfold R28 at q; omega) (Nat.le_refl 0) (Nat.le_refl 0)) hB
end BD
