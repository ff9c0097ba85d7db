/-! build: the class's whole. -/
theorem Gr_sw {w w' : MWd} (h1 : wN w' = wN w) (hr : wAR w' = wAR w) (hf : ∀ k a, k ≠ 517 → k ≠ 518 → wFR w' k a = wFR w k a) (g : Gr w) : Gr w' := by
  obtain ⟨h0, g1, h2, h3, h4, h5, h6⟩ := g
  have hs : ∀ c, grS w c → grS w' c := by
    intro c g
    unfold grS grM at g ⊢
    refine ⟨by rw [hf _ _ (by decide) (by decide)]; exact g.1, fun m hm => ?_⟩
    rw [hr, hf _ _ (by decide) (by decide), hf _ _ (by decide) (by decide), hf _ _ (by decide) (by decide), hf _ _ (by decide) (by decide), hf _ _ (by decide) (by decide), hf _ _ (by decide) (by decide), hf _ _ (by decide) (by decide)]
    exact g.2 m hm
  refine ⟨by rw [h1]; exact h0, fun r hr' => ?_, hs _ h2, hs _ h3, fun m hm => ?_, fun m hm => ?_, ?_⟩
  · rw [hr, hf _ _ (by decide) (by decide), hf _ _ (by decide) (by decide)]
    exact g1 r hr'
  · rw [hr]; exact h4 m hm
  · rw [hr]; exact h5 m hm
  · rw [hf 512 1 (by decide) (by decide), hf 513 1 (by decide) (by decide), hf 514 1 (by decide) (by decide), hf 515 1 (by decide) (by decide), hf 516 1 (by decide) (by decide), hf 448 2 (by decide) (by decide), hf 384 4 (by decide) (by decide), hf 256 42 (by decide) (by decide), hf 257 42 (by decide) (by decide), hf 258 42 (by decide) (by decide), hf 259 42 (by decide) (by decide), hf 192 47 (by decide) (by decide), hf 193 47 (by decide) (by decide), hf 194 47 (by decide) (by decide), hf 195 47 (by decide) (by decide), hf 196 47 (by decide) (by decide), hf 197 47 (by decide) (by decide), hf 198 47 (by decide) (by decide), hf 199 47 (by decide) (by decide), hf 200 47 (by decide) (by decide), hf 0 57 (by decide) (by decide), hf 1 57 (by decide) (by decide), hf 641 128 (by decide) (by decide), hf 645 128 (by decide) (by decide), hf 646 128 (by decide) (by decide), hf 647 128 (by decide) (by decide), hf 648 128 (by decide) (by decide), hf 649 128 (by decide) (by decide), hf 650 128 (by decide) (by decide), hf 651 128 (by decide) (by decide), hf 652 128 (by decide) (by decide), hf 653 128 (by decide) (by decide), hf 654 128 (by decide) (by decide), hf 655 128 (by decide) (by decide), hf 656 128 (by decide) (by decide), hf 657 128 (by decide) (by decide), hf 665 128 (by decide) (by decide), hf 666 128 (by decide) (by decide), hf 667 128 (by decide) (by decide), hf 668 128 (by decide) (by decide), hf 670 128 (by decide) (by decide), hf 671 128 (by decide) (by decide), hf 672 128 (by decide) (by decide), hf 673 128 (by decide) (by decide), hf 674 128 (by decide) (by decide), hf 675 128 (by decide) (by decide), hf 676 128 (by decide) (by decide), hf 677 128 (by decide) (by decide), hf 679 128 (by decide) (by decide), hf 680 128 (by decide) (by decide), hf 681 128 (by decide) (by decide)]
    exact h6
def mdOk (w : MWd) (nr e m : Nat) (W : MWd) : Prop := ∃ N mvN an, isM w nr m N mvN an ∧ ClsA W e m N mvN an ∧ MachR W e m N mvN
theorem mdOk_Fr {F : Nat → Nat → Prop} {R : Nat → Prop} {x y nr e m : Nat} {w W W' : MWd} (h : Fr F R x y W W') (he : e = 60 ∨ e = 94) (hm : m < 4) (hF : ¬ F 71 (e + 2 + 8 * m)) (hR : ∀ a, e + 3 + 8 * m ≤ a → a ≤ e + 7 + 8 * m → ¬ R a) (I : mdOk w nr e m W) : mdOk w nr e m W' := by
  obtain ⟨N, mvN, an, h1, ⟨c1, c2, c3, c4⟩, T, dep, b1, b2, b3⟩ := I
  refine ⟨N, mvN, an, h1, ⟨c1, ?_, ?_, ?_⟩, T, dep, b1, ?_, ?_⟩
  · rw [Fr_fi h (by omega) hF]; exact c2
  · rw [Fr_ai h (by omega) (hR _ (by omega) (by omega))]; exact c3
  · rw [Fr_ai h (by omega) (hR _ (by omega) (by omega))]; exact c4
  · rw [Fr_ai h (by omega) (hR _ (by omega) (by omega)), Fr_ai h (by omega) (hR _ (by omega) (by omega))]; exact b2
  · rw [Fr_ai h (by omega) (hR _ (by omega) (by omega))]; exact b3
theorem isM_congr {w w' : MWd} {nr m N : Nat} {mvN an : Nat → Option Nat} (h : ruEq w w') (hnr : nr ≤ 12) (I : isM w' nr m N mvN an) : isM w nr m N mvN an := by
  have e1 := ruEq_nx (m := m) h hnr
  have e2 : ∀ n, stA w' nr m n = stA w nr m n := by
    intro n; funext s
    unfold stA
    rw [e1, ruEq_an h hnr]
  obtain ⟨n, h1, h2⟩ := I
  rw [e1, e2 n] at *
  refine ⟨n, h1, h2.imp id ?_⟩
  rintro ⟨a1, kd, a2, a3, a4, a5⟩
  refine ⟨a1, kd, a2, a3, a4, fun s hs => ?_⟩
  rw [a5 s hs, ruEq_an h hnr]
section BD
variable {d : Nat} {w : MWd} {Q : MRes → MWd → Prop}
theorem s_88 {nr c e : Nat} (G : Gr w) (he : e = 60 ∨ e = 94) (hnr : nr ≤ 12) (hr : wFI w 385 4 = Int32.ofNat nr) (h517 : wFR w 517 1 = some (2, 0, c)) (h518 : wFR w 518 1 = some (2, 0, e))
    (K1 : ∀ (W : MWd) (NN4 : Nat → Nat), bdFr e w W → (∀ m, m < 4 → NN4 m ≤ 100 ∧ ∃ mvN an, isM w nr m (NN4 m) mvN an ∧ ClsA W e m (NN4 m) mvN an ∧ MachR W e m (NN4 m) mvN) →
      Q (.inl (some (vI (Int32.ofNat (NN4 0 + NN4 1 + NN4 2 + NN4 3))))) (sFI (sFI (sFR (sFR W 517 1 (some (2, 0, e))) 518 1 (some (2, 0, c))) 520 1 (Int32.ofNat nr)) 519 1 (Int32.ofNat 1)))
    (K0 : ∀ W m, bdFr e w W → m < 4 → sBad (nxF w nr m) → (∀ q, q < m → ∃ N mvN an, isM w nr q N mvN an) → Q (.inr (0, none)) (mj_tick W)) :
    mR (d + 6) w 88 0 [some (vR (some (8, 0, 1))), none] [] Q := by
  have loop : ∀ (f m : Nat) (W : MWd), m + f = 4 → bdFr e w W → (∀ q, q < m → mdOk w nr e q W) → mR (d + 6) W 88 2 [some (vR (some (8, 0, 1))), some (vI (Int32.ofNat m))] [] Q := by
    intro f
    induction f with
    | zero =>
      intro m W hm hF hq
      have hm4 : m = 4 := by omega
      subst hm4
      have G' := Fr_Gr hF G
      have a517 : wFR W 517 1 = some (2, 0, c) := (Fr_fr hF (by decide)).trans h517
      have a518 : wFR W 518 1 = some (2, 0, e) := (Fr_fr hF (by decide)).trans h518
      have a385 : wFI W 385 4 = Int32.ofNat nr := (Fr_fi hF (by decide) (by unfold bdF; omega)).trans hr
      obtain ⟨N0, mv0, an0, m0, c0, r0⟩ := hq 0 (by omega)
      obtain ⟨N1, mv1, an1, m1, c1, r1⟩ := hq 1 (by omega)
      obtain ⟨N2, mv2, an2, m2, c2, r2⟩ := hq 2 (by omega)
      obtain ⟨N3, mv3, an3, m3, c3, r3⟩ := hq 3 (by omega)
      have k1 := K1 W (fun m => if m = 0 then N0 else if m = 1 then N1 else if m = 2 then N2 else N3) hF (fun m hm => by
        have hmc : m = 0 ∨ m = 1 ∨ m = 2 ∨ m = 3 := by omega
        rcases hmc with rfl | rfl | rfl | rfl
        · exact ⟨c0.1, mv0, an0, m0, c0, r0⟩
        · exact ⟨c1.1, mv1, an1, m1, c1, r1⟩
        · exact ⟨c2.1, mv2, an2, m2, c2, r2⟩
        · exact ⟨c3.1, mv3, an3, m3, c3, r3⟩)
      have k1' : Q (.inl (some (vI (Int32.ofNat (N0 + N1 + N2 + N3))))) (sFI (sFI (sFR (sFR W 517 1 (some (2, 0, e))) 518 1 (some (2, 0, c))) 520 1 (Int32.ofNat nr)) 519 1 (Int32.ofNat 1)) := k1
      have b0 := c0.1
      have b1 := c1.1
      have b2 := c2.1
      have b3 := c3.1
      rw [e_88_2]
      simp (disch := omega) only [e_88_3, e_88_4, e_88_46, e_88_47, e_88_50, e_88_51, e_88_52, e_88_53, e_88_56, e_88_59, e_88_60, e_88_61, e_88_64, e_88_65, e_88_66, e_88_69, e_88_72, e_88_75, e_88_76, e_88_77, e_88_80, e_88_81, e_88_84, i_lit, i_add, i_mul, i_m1, i_lt, i_le, i_eq, i_cl, i_in, i_ltN, i_Nlt, i_leN, i_Nle, i_eN, i_Ne, i_inN, i_l1, i_l2, mj_cpok, mj_nn, reduceCtorEq, lg_self, Nat.not_lt_zero, Nat.zero_le, Nat.reduceEqDiff, Nat.reduceLT, Nat.reduceLeDiff, true_or, or_true, false_or, or_false, not_true_eq_false, not_false_eq_true, true_imp_iff, false_imp_iff, and_self, wrd, u2, and_true, true_and, and_false, false_and, and_self, ite_true, ite_false, reduceIte, a517, a518, a385, g_513 G']
      (repeat' (first | (with_reducible refine And.intro ?_ ?_) | (with_reducible intro _)))
      all_goals try omega
      have G2 : Gr (sFI (sFI (sFR (sFR W 517 1 (some (2, 0, e))) 518 1 (some (2, 0, c))) 520 1 (Int32.ofNat nr)) 519 1 (Int32.ofNat 1)) := Gr_sw (w := W) rfl rfl (fun k a h1 h2 => by
        show u2 (u2 (wFR W) 517 1 _) 518 1 _ k a = _
        unfold u2
        rw [if_neg (fun q => h2 q.1), if_neg (fun q => h1 q.1)]) G'
      have z0 : wFI (sFI (sFI (sFR (sFR W 517 1 (some (2, 0, e))) 518 1 (some (2, 0, c))) 520 1 (Int32.ofNat nr)) 519 1 (Int32.ofNat 1)) 71 (e + 2 + 8 * 0) = Int32.ofNat N0 := by simp only [mj_cpok, mj_nn, reduceCtorEq, lg_self, Nat.not_lt_zero, Nat.zero_le, Nat.reduceEqDiff, Nat.reduceLT, Nat.reduceLeDiff, true_or, or_true, false_or, or_false, not_true_eq_false, not_false_eq_true, true_imp_iff, false_imp_iff, and_self, wrd, u2, and_true, true_and, and_false, false_and, and_self, ite_true, ite_false, reduceIte]; exact c0.2.1
      have z1 : wFI (sFI (sFI (sFR (sFR W 517 1 (some (2, 0, e))) 518 1 (some (2, 0, c))) 520 1 (Int32.ofNat nr)) 519 1 (Int32.ofNat 1)) 71 (e + 2 + 8 * 1) = Int32.ofNat N1 := by simp only [mj_cpok, mj_nn, reduceCtorEq, lg_self, Nat.not_lt_zero, Nat.zero_le, Nat.reduceEqDiff, Nat.reduceLT, Nat.reduceLeDiff, true_or, or_true, false_or, or_false, not_true_eq_false, not_false_eq_true, true_imp_iff, false_imp_iff, and_self, wrd, u2, and_true, true_and, and_false, false_and, and_self, ite_true, ite_false, reduceIte]; exact c1.2.1
      have z2 : wFI (sFI (sFI (sFR (sFR W 517 1 (some (2, 0, e))) 518 1 (some (2, 0, c))) 520 1 (Int32.ofNat nr)) 519 1 (Int32.ofNat 1)) 71 (e + 2 + 8 * 2) = Int32.ofNat N2 := by simp only [mj_cpok, mj_nn, reduceCtorEq, lg_self, Nat.not_lt_zero, Nat.zero_le, Nat.reduceEqDiff, Nat.reduceLT, Nat.reduceLeDiff, true_or, or_true, false_or, or_false, not_true_eq_false, not_false_eq_true, true_imp_iff, false_imp_iff, and_self, wrd, u2, and_true, true_and, and_false, false_and, and_self, ite_true, ite_false, reduceIte]; exact c2.2.1
      have z3 : wFI (sFI (sFI (sFR (sFR W 517 1 (some (2, 0, e))) 518 1 (some (2, 0, c))) 520 1 (Int32.ofNat nr)) 519 1 (Int32.ofNat 1)) 71 (e + 2 + 8 * 3) = Int32.ofNat N3 := by simp only [mj_cpok, mj_nn, reduceCtorEq, lg_self, Nat.not_lt_zero, Nat.zero_le, Nat.reduceEqDiff, Nat.reduceLT, Nat.reduceLeDiff, true_or, or_true, false_or, or_false, not_true_eq_false, not_false_eq_true, true_imp_iff, false_imp_iff, and_self, wrd, u2, and_true, true_and, and_false, false_and, and_self, ite_true, ite_false, reduceIte]; exact c3.2.1
      generalize (sFI (sFI (sFR (sFR W 517 1 (some (2, 0, e))) 518 1 (some (2, 0, c))) 520 1 (Int32.ofNat nr)) 519 1 (Int32.ofNat 1)) = V at G2 z0 z1 z2 z3 k1' ⊢
      have hgs := g_set G2 he
      have turn : ∀ (m x N : Nat) (l3 : Option MV), m < 4 → x ≤ 400 → N ≤ 100 → wFI V 71 (e + 2 + 8 * m) = Int32.ofNat N → (∀ l3, mR (d + 5) V 25 4 [some (vR (some (2, 0, e))), some (vI (Int32.ofNat (x + N))), some (vI (Int32.ofNat (m + 1))), l3] [] (mK (d + 5 + 1) 88 84 87 [some (vR (some (8, 0, 1))), some (vR (some (2, 0, c)))] [] Q)) →
          mR (d + 5) V 25 4 [some (vR (some (2, 0, e))), some (vI (Int32.ofNat x)), some (vI (Int32.ofNat m)), l3] [] (mK (d + 5 + 1) 88 84 87 [some (vR (some (8, 0, 1))), some (vR (some (2, 0, c)))] [] Q) := by
        intro m x N l3 hm hx hN hz h
        rw [e_25_4]
        simp (disch := omega) only [e_25_0, e_25_1, e_25_2, e_25_3, e_25_5, e_25_6, e_25_9, e_25_10, e_25_11, e_25_14, e_25_15, e_25_16, e_25_17, e_25_20, e_25_21, e_25_24, e_25_25, e_25_28, e_25_29, e_25_30, e_25_33, e_25_36, e_25_37, e_24_0, e_24_1, e_24_4, e_24_7, e_24_8, e_24_11, e_24_12, e_24_13, e_24_16, e_24_17, e_104_0, e_104_1, e_104_4, e_104_5, e_104_6, e_104_9, e_104_10, e_104_13, e_104_14, i_lit, i_add, i_mul, i_m1, i_lt, i_le, i_eq, i_cl, i_in, i_ltN, i_Nlt, i_leN, i_Nle, i_eN, i_Ne, i_inN, i_l1, i_l2, mj_cpok, mj_nn, reduceCtorEq, lg_self, Nat.not_lt_zero, Nat.zero_le, Nat.reduceEqDiff, Nat.reduceLT, Nat.reduceLeDiff, true_or, or_true, false_or, or_false, not_true_eq_false, not_false_eq_true, true_imp_iff, false_imp_iff, and_self, wrd, u2, and_true, true_and, and_false, false_and, and_self, ite_true, ite_false, reduceIte, mK_v, hgs.1, gs_row hgs hm, hz]
        (repeat' (first | (with_reducible refine And.intro ?_ ?_) | (with_reducible intro _)))
        all_goals first | omega | exact h _
      rw [e_25_0, e_25_1, e_25_2, e_25_3]
      refine turn 0 0 N0 _ (by omega) (by omega) b0 z0 (fun l3 => ?_)
      refine turn 1 (0 + N0) N1 _ (by omega) (by omega) b1 z1 (fun l3 => ?_)
      refine turn 2 (0 + N0 + N1) N2 _ (by omega) (by omega) b2 z2 (fun l3 => ?_)
      refine turn 3 (0 + N0 + N1 + N2) N3 _ (by omega) (by omega) b3 z3 (fun l3 => ?_)
      rw [e_25_4]
      simp (disch := omega) only [e_25_0, e_25_1, e_25_2, e_25_3, e_25_5, e_25_6, e_25_9, e_25_10, e_25_11, e_25_14, e_25_15, e_25_16, e_25_17, e_25_20, e_25_21, e_25_24, e_25_25, e_25_28, e_25_29, e_25_30, e_25_33, e_25_36, e_25_37, i_lit, i_add, i_mul, i_m1, i_lt, i_le, i_eq, i_cl, i_in, i_ltN, i_Nlt, i_leN, i_Nle, i_eN, i_Ne, i_inN, i_l1, i_l2, mj_cpok, mj_nn, reduceCtorEq, lg_self, Nat.not_lt_zero, Nat.zero_le, Nat.reduceEqDiff, Nat.reduceLT, Nat.reduceLeDiff, true_or, or_true, false_or, or_false, not_true_eq_false, not_false_eq_true, true_imp_iff, false_imp_iff, and_self, wrd, u2, and_true, true_and, and_false, false_and, and_self, ite_true, ite_false, reduceIte, mK_v, e_88_87]
      (repeat' (first | (with_reducible refine And.intro ?_ ?_) | (with_reducible intro _)))
      all_goals try omega
      rw [show 0 + N0 + N1 + N2 + N3 = N0 + N1 + N2 + N3 by omega]; exact k1'
    | succ f ih =>
      intro m W hm hF hq
      have G' := Fr_Gr hF G
      have hgs := g_set G' he
      have a518 : wFR W 518 1 = some (2, 0, e) := (Fr_fr hF (by decide)).trans h518
      have a385 : wFI W 385 4 = Int32.ofNat nr := (Fr_fi hF (by decide) (by unfold bdF; omega)).trans hr
      have ru : ruEq w W := ⟨a385.trans hr.symm, fun k a h1 h2 => Fr_fi hF (by omega) (by unfold bdF; omega), fun a h1 h2 => Fr_ai hF (by omega) (by unfold bdA; omega)⟩
      have frm : ∀ {W' : MWd}, Fr (fun k a => (k = 201 ∧ a = 47) ∨ (k = 71 ∧ a = e + 2 + 8 * m)) (fun a => (48 ≤ a ∧ a ≤ 56) ∨ (e + 3 + 8 * m ≤ a ∧ a ≤ e + 7 + 8 * m)) 0 0 W W' → bdFr e w W' := fun f1 => bdFr_t hF (Fr_weak f1 (fun k a q => by unfold bdF; omega) (fun a q => by unfold bdA; omega) (Nat.le_refl 0) (Nat.le_refl 0))
      rw [e_88_2]
      simp (disch := omega) only [e_88_3, e_88_4, e_88_7, e_88_8, e_88_11, e_88_12, e_88_15, e_88_16, e_88_17, e_88_20, e_88_21, e_24_0, e_24_1, e_24_4, e_24_7, e_24_8, e_24_11, e_24_12, e_24_13, e_24_16, e_24_17, e_104_0, e_104_1, e_104_4, e_104_5, e_104_6, e_104_9, e_104_10, e_104_13, e_104_14, i_lit, i_add, i_mul, i_m1, i_lt, i_le, i_eq, i_cl, i_in, i_ltN, i_Nlt, i_leN, i_Nle, i_eN, i_Ne, i_inN, i_l1, i_l2, mj_cpok, mj_nn, reduceCtorEq, lg_self, Nat.not_lt_zero, Nat.zero_le, Nat.reduceEqDiff, Nat.reduceLT, Nat.reduceLeDiff, true_or, or_true, false_or, or_false, not_true_eq_false, not_false_eq_true, true_imp_iff, false_imp_iff, and_self, wrd, u2, and_true, true_and, and_false, false_and, and_self, ite_true, ite_false, reduceIte, mK_v, a518, hgs.1, gs_row hgs (show m < 4 by omega), g_515 G', g_513 G']
      (repeat' (first | (with_reducible refine And.intro ?_ ?_) | (with_reducible intro _)))
      all_goals try omega
      simp (disch := omega) only [e_88_24]
      refine s_27 G' he (by omega) hnr a385 (fun W' N mvN an f1 hM hC hR => ?_) (fun W' f1 hB => ?_)
      · simp (disch := omega) only [mK_v, e_88_27, e_88_40, e_88_43, i_lit, i_add, i_mul, i_m1, i_lt, i_le, i_eq, i_cl, i_in, i_ltN, i_Nlt, i_leN, i_Nle, i_eN, i_Ne, i_inN, i_l1, i_l2, mj_cpok, mj_nn, reduceCtorEq, lg_self, Nat.not_lt_zero, Nat.zero_le, Nat.reduceEqDiff, Nat.reduceLT, Nat.reduceLeDiff, true_or, or_true, false_or, or_false, not_true_eq_false, not_false_eq_true, true_imp_iff, false_imp_iff, and_self, wrd, u2, and_true, true_and, and_false, false_and, and_self, ite_true, ite_false, reduceIte]
        (repeat' (first | (with_reducible refine And.intro ?_ ?_) | (with_reducible intro _)))
        all_goals try omega
        refine ih (m + 1) W' (by omega) (frm f1) (fun q hqm => ?_)
        by_cases hqe : q = m
        · subst hqe; exact ⟨N, mvN, an, isM_congr ru hnr hM, hC, hR⟩
        · exact mdOk_Fr f1 he (by omega) (by omega) (fun a h1 h2 => by omega) (hq q (by omega))
      · rw [ruEq_nx ru hnr] at hB
        simp (disch := omega) only [mK_v, e_88_27, e_88_30, i_lit, i_add, i_mul, i_m1, i_lt, i_le, i_eq, i_cl, i_in, i_ltN, i_Nlt, i_leN, i_Nle, i_eN, i_Ne, i_inN, i_l1, i_l2, mj_cpok, mj_nn, reduceCtorEq, lg_self, Nat.not_lt_zero, Nat.zero_le, Nat.reduceEqDiff, Nat.reduceLT, Nat.reduceLeDiff, true_or, or_true, false_or, or_false, not_true_eq_false, not_false_eq_true, true_imp_iff, false_imp_iff, and_self, wrd, u2, and_true, true_and, and_false, false_and, and_self, ite_true, ite_false, reduceIte]
        (repeat' (first | (with_reducible refine And.intro ?_ ?_) | (with_reducible intro _)))
        all_goals try omega
        exact K0 W' m (frm f1) (by omega) hB (fun q hqm => by
          obtain ⟨N, mvN, an, h1, -⟩ := hq q hqm
          exact ⟨N, mvN, an, h1⟩)
  rw [e_88_0, e_88_1]
  exact loop 4 0 w (by omega) Fr_refl (fun q hq => absurd hq (Nat.not_lt_zero q))
end BD
