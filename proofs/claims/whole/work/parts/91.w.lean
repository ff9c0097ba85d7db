/-! addRule: the reference reads a pattern. -/
abbrev rBp : Nat → Prop := fun a => 133 ≤ a ∧ a ≤ 141
def rgU (W V : MWd) (r : Nat) : Prop := (∀ a j, 130 ≤ a → a ≤ 142 → a ≠ 135 → a ≠ 136 → j < r → wAI V a j = wAI W a j) ∧ ∀ j, j < 30 * r → wAI V 135 j = wAI W 135 j ∧ wAI V 136 j = wAI W 136 j
def rgW (V : MWd) (r np : Nat) (fo lt : Nat → Int32) (f l : Int32) (hl : Bool) (f2 l2 : Int32) (e2 : Bool) : Prop :=
  wAI V 133 r = b2 hl ∧ wAI V 134 r = Int32.ofNat np ∧ wAI V 137 r = f ∧ wAI V 138 r = l ∧ wAI V 139 r = f2 ∧ wAI V 140 r = l2 ∧ wAI V 141 r = b2 e2 ∧ ∀ p, p < np → wAI V 136 (30 * r + p) = fo p ∧ wAI V 135 (30 * r + p) = lt p
theorem rgU_refl {W : MWd} {r : Nat} : rgU W W r := ⟨fun _ _ _ _ _ _ _ => rfl, fun _ _ => ⟨rfl, rfl⟩⟩
theorem rgU_tr {W U V : MWd} {r : Nat} (h : rgU W U r) (h' : rgU U V r) : rgU W V r := ⟨fun a j h1 h2 h3 h4 hj => (h'.1 a j h1 h2 h3 h4 hj).trans (h.1 a j h1 h2 h3 h4 hj), fun j hj => ⟨(h'.2 j hj).1.trans (h.2 j hj).1, (h'.2 j hj).2.trans (h.2 j hj).2⟩⟩
theorem rgU_of {W V : MWd} {r x y : Nat} (h : Fr rF rA x y W V) (hU : rfU W V r) : rgU W V r := ⟨fun a j h1 h2 h3 h4 hj => by
  by_cases c : a = 134
  · subst c; exact hU.1 j hj
  · rw [Fr_ai h (by omega) (by omega)], hU.2⟩
section RF
variable {d : Nat} {n r : Nat} {B : Nat → Nat}
/-- what is behind the token -/
theorem r_126e {W : MWd} {Q : MRes → MWd → Prop} {i tp : Nat} {fo lt : Nat → Int32} {f l : Int32} {e : Bool} (hr : r < 12) (G : Gr W) (hT : rfT W n B) (hR : rfR W r i tp 0 fo lt) (hi : i ≤ 40) (htp : tp ≤ 30) (hf : ∀ p, tp ≤ p → fo p = Int32.ofNat 0) (hlim : ¬ (i = 40 ∧ 40 < n))
    (h137 : wAI W 137 r = f) (h138 : wAI W 138 r = l) (h139 : wAI W 139 r = Int32.ofNat 0) (h140 : wAI W 140 r = Int32.ofNat 0) (h141 : wAI W 141 r = Int32.ofNat 1) (hE : eitG (sgn n B) 6 0 0 (fun _ => Int32.ofNat 0) (fun _ => Int32.ofNat 0) = .inr (i, tp, fo, lt, f, l, e))
    (K0 : ∀ V a er, patP n (sgn n B) = .inl er → Fr rF rBp 1 7 W V → rgU W V r → wFI V 582 a = Int32.ofNat er → Q (.inr (3, some (9, 0, a))) V)
    (K1 : ∀ V tp i np fo lt f l e hl f2 l2 e2, patP n (sgn n B) = .inr (tp, (i, np, fo, lt, f, l, e), hl, f2, l2, e2) → Fr rF rBp 0 0 W V → rgU W V r → rgW V r np fo lt f l hl f2 l2 e2 → Q (.inl (some (vI (if e = true then Int32.ofNat 2 else Int32.ofNat 0)))) V) :
    mR (d + 32) W 126 85 [some (vR (some (10, 0, 128))), some (vI (b2 e))] [] Q := by
  have hS : sgOk (sgn n B) := sgn_ok (fun i hi => (hT.2.2 i hi).1)
  have hb := hS i
  unfold patP at K0 K1
  rw [hE] at K0 K1
  dsimp only at K0 K1
  -- the last look at the tape
  have fin : ∀ (U : MWd) (i2 : Nat), i2 ≤ 40 → Fr rF rBp 0 0 W U → rgU W U r → wFI U 658 128 = Int32.ofNat i2 →
      (i2 < n → ∀ V a, Fr rF rBp 1 7 W V → rgU W V r → wFI V 582 a = Int32.ofNat i2 → Q (.inr (3, some (9, 0, a))) V) → (¬ i2 < n → Q (.inl (some (vI (if e = true then Int32.ofNat 2 else Int32.ofNat 0)))) U) →
      mR (d + 32) U 126 173 [some (vR (some (10, 0, 128))), some (vI (b2 e))] [] Q := by
    intro U i2 hi2 hF hU h1 k1 k2
    have GU := Fr_Gr hF G
    have TU := rfT_Fr hF (by omega) (by omega) hT
    have thr : i2 < n → Q (.inr (3, some (9, 0, wN U))) (mj_wrong U 128) := fun h => by
      have hv : 167 ≤ wN U := GU.1
      refine k1 h (mj_wrong U 128) (wN U) (Fr_sFI (Fr_nwO G.1 hF) (Or.inr hv)) ⟨fun a j q1 q2 q3 q4 hj => hU.1 a j q1 q2 q3 q4 hj, fun j hj => hU.2 j hj⟩ ?_
      show u2 (wFI (nwO U 7)) 582 (wN U) (wFI U 658 128) 582 (wN U) = _
      unfold u2
      rw [if_pos ⟨rfl, rfl⟩, h1]
    rw [e_126_173]
    simp (disch := omega) only [e_126_174, i_lit, i_add, i_mul, i_m1, i_lt, i_le, i_eq, i_cl, i_in, i_ltN, i_Nlt, i_leN, i_Nle, i_eN, i_Ne, i_inN, i_l1, i_l2, mj_cpok, mj_nn, reduceCtorEq, lg_self, Nat.not_lt_zero, Nat.zero_le, Nat.reduceEqDiff, Nat.reduceLT, Nat.reduceLeDiff, true_or, or_true, false_or, or_false, not_true_eq_false, not_false_eq_true, true_imp_iff, false_imp_iff, and_self, wrd, u2, and_true, true_and, and_false, false_and, and_self, ite_true, ite_false, reduceIte]
    refine r_115 GU TU h1 hi2 (fun c => ?_) (fun c => ?_)
    · have := thr (by omega)
      show mK (d + 32) 126 174 177 _ _ Q _ _
      rw [mK_x (by decide +kernel)]
      exact this
    · by_cases c2 : i2 < n
      · have t := thr c2
        have e1 : sgn n B i2 = B i2 := if_pos ⟨c2, by omega⟩
        have hb2 := (hT.2.2 i2 c2).1
        rw [e1, sgI_n (by omega)]
        simp (disch := omega) only [e_126_177, e_126_178, e_126_181, i_lit, i_add, i_mul, i_m1, i_lt, i_le, i_eq, i_cl, i_in, i_ltN, i_Nlt, i_leN, i_Nle, i_eN, i_Ne, i_inN, i_l1, i_l2, mj_cpok, mj_nn, reduceCtorEq, lg_self, Nat.not_lt_zero, Nat.zero_le, Nat.reduceEqDiff, Nat.reduceLT, Nat.reduceLeDiff, true_or, or_true, false_or, or_false, not_true_eq_false, not_false_eq_true, true_imp_iff, false_imp_iff, and_self, wrd, u2, and_true, true_and, and_false, false_and, and_self, ite_true, ite_false, reduceIte, mK_v]
        (repeat' (first | (with_reducible refine And.intro ?_ ?_) | (with_reducible intro _)))
        all_goals first | omega | exact t
      · have e1 : sgn n B i2 = 256 := if_neg (fun q => c2 q.1)
        have k := k2 c2
        rw [e1, sgI_e]
        cases e <;> simp only [b2, Bool.false_eq_true, if_true, if_false] at k ⊢
        · simp (disch := omega) only [e_126_177, e_126_178, e_126_193, e_126_194, e_126_197, e_126_198, e_126_201, e_126_202, i_lit, i_add, i_mul, i_m1, i_lt, i_le, i_eq, i_cl, i_in, i_ltN, i_Nlt, i_leN, i_Nle, i_eN, i_Ne, i_inN, i_l1, i_l2, mj_cpok, mj_nn, reduceCtorEq, lg_self, Nat.not_lt_zero, Nat.zero_le, Nat.reduceEqDiff, Nat.reduceLT, Nat.reduceLeDiff, true_or, or_true, false_or, or_false, not_true_eq_false, not_false_eq_true, true_imp_iff, false_imp_iff, and_self, wrd, u2, and_true, true_and, and_false, false_and, and_self, ite_true, ite_false, reduceIte, mK_v, b2, Bool.false_eq_true]
          (repeat' (first | (with_reducible refine And.intro ?_ ?_) | (with_reducible intro _)))
          all_goals first | omega | exact k
        · simp (disch := omega) only [e_126_177, e_126_178, e_126_193, e_126_194, e_126_197, e_126_198, e_126_201, e_126_202, i_lit, i_add, i_mul, i_m1, i_lt, i_le, i_eq, i_cl, i_in, i_ltN, i_Nlt, i_leN, i_Nle, i_eN, i_Ne, i_inN, i_l1, i_l2, mj_cpok, mj_nn, reduceCtorEq, lg_self, Nat.not_lt_zero, Nat.zero_le, Nat.reduceEqDiff, Nat.reduceLT, Nat.reduceLeDiff, true_or, or_true, false_or, or_false, not_true_eq_false, not_false_eq_true, true_imp_iff, false_imp_iff, and_self, wrd, u2, and_true, true_and, and_false, false_and, and_self, ite_true, ite_false, reduceIte, mK_v, b2, Bool.false_eq_true]
          (repeat' (first | (with_reducible refine And.intro ?_ ?_) | (with_reducible intro _)))
          all_goals first | omega | exact k
  obtain ⟨h658, h659, h644, h134, hp⟩ := hR
  have FA : ∀ x, Fr (fun _ _ => False) (fun a => a = 133) 0 0 W (sAI W 133 r x) := fun x => Fr_sAI Fr_refl (by omega)
  have UA : ∀ x, rgU W (sAI W 133 r x) r := fun x => ⟨fun a j h1 h2 h3 h4 hj => by
    have hne : ¬ j = r := by omega
    simp only [mj_cpok, mj_nn, reduceCtorEq, lg_self, Nat.not_lt_zero, Nat.zero_le, Nat.reduceEqDiff, Nat.reduceLT, Nat.reduceLeDiff, true_or, or_true, false_or, or_false, not_true_eq_false, not_false_eq_true, true_imp_iff, false_imp_iff, and_self, wrd, u2, and_true, true_and, and_false, false_and, and_self, ite_true, ite_false, reduceIte, hne], fun j hj => ⟨rfl, rfl⟩⟩
  by_cases c : sgn n B i = 47
  · rw [if_pos c] at K0 K1
    have hi2 : i < 40 := by omega
    have F1 : Fr rF rBp 0 0 W (sFI (sAI W 133 r (Int32.ofNat 1)) 658 128 (Int32.ofNat (i + 1))) := Fr_sFI (Fr_weak (FA _) (fun _ _ q => q.elim) (fun _ q => by omega) (Nat.le_refl _) (Nat.le_refl _)) (by omega)
    have F1' : Fr rF1 (fun a => a = 133) 0 0 W (sFI (sAI W 133 r (Int32.ofNat 1)) 658 128 (Int32.ofNat (i + 1))) := Fr_sFI (Fr_weak (FA _) (fun _ _ q => q.elim) (fun _ q => q) (Nat.le_refl _) (Nat.le_refl _)) (by omega)
    have U1 : rgU W (sFI (sAI W 133 r (Int32.ofNat 1)) 658 128 (Int32.ofNat (i + 1))) r := UA _
    have g1 : wFI (sFI (sAI W 133 r (Int32.ofNat 1)) 658 128 (Int32.ofNat (i + 1))) 658 128 = Int32.ofNat (i + 1) := by simp only [mj_cpok, mj_nn, reduceCtorEq, lg_self, Nat.not_lt_zero, Nat.zero_le, Nat.reduceEqDiff, Nat.reduceLT, Nat.reduceLeDiff, true_or, or_true, false_or, or_false, not_true_eq_false, not_false_eq_true, true_imp_iff, false_imp_iff, and_self, wrd, u2, and_true, true_and, and_false, false_and, and_self, ite_true, ite_false, reduceIte]
    have g133 : wAI (sFI (sAI W 133 r (Int32.ofNat 1)) 658 128 (Int32.ofNat (i + 1))) 133 r = Int32.ofNat 1 := by simp only [mj_cpok, mj_nn, reduceCtorEq, lg_self, Nat.not_lt_zero, Nat.zero_le, Nat.reduceEqDiff, Nat.reduceLT, Nat.reduceLeDiff, true_or, or_true, false_or, or_false, not_true_eq_false, not_false_eq_true, true_imp_iff, false_imp_iff, and_self, wrd, u2, and_true, true_and, and_false, false_and, and_self, ite_true, ite_false, reduceIte]
    rw [e_126_85]
    simp (disch := omega) only [e_126_86, e_126_89, e_126_90, e_126_93, e_126_94, i_lit, i_add, i_mul, i_m1, i_lt, i_le, i_eq, i_cl, i_in, i_ltN, i_Nlt, i_leN, i_Nle, i_eN, i_Ne, i_inN, i_l1, i_l2, mj_cpok, mj_nn, reduceCtorEq, lg_self, Nat.not_lt_zero, Nat.zero_le, Nat.reduceEqDiff, Nat.reduceLT, Nat.reduceLeDiff, true_or, or_true, false_or, or_false, not_true_eq_false, not_false_eq_true, true_imp_iff, false_imp_iff, and_self, wrd, u2, and_true, true_and, and_false, false_and, and_self, ite_true, ite_false, reduceIte, g_648 G, h644]
    refine r_115 G hT h658 hi (fun c' => absurd c' hlim) (fun _ => ?_)
    rw [c, show sgI 47 = Int32.ofNat 47 from rfl]
    simp (disch := omega) only [e_126_97, e_126_99, e_126_102, e_126_103, e_126_106, e_126_107, e_126_108, e_126_109, e_126_112, e_126_113, e_126_116, e_126_117, e_126_120, e_126_121, e_126_122, e_126_125, e_126_126, e_126_127, e_126_130, e_126_131, i_lit, i_add, i_mul, i_m1, i_lt, i_le, i_eq, i_cl, i_in, i_ltN, i_Nlt, i_leN, i_Nle, i_eN, i_Ne, i_inN, i_l1, i_l2, mj_cpok, mj_nn, reduceCtorEq, lg_self, Nat.not_lt_zero, Nat.zero_le, Nat.reduceEqDiff, Nat.reduceLT, Nat.reduceLeDiff, true_or, or_true, false_or, or_false, not_true_eq_false, not_false_eq_true, true_imp_iff, false_imp_iff, and_self, wrd, u2, and_true, true_and, and_false, false_and, and_self, ite_true, ite_false, reduceIte, mK_v, g_648 G, h644, h658]
    (repeat' (first | (with_reducible refine And.intro ?_ ?_) | (with_reducible intro _)))
    all_goals try first | omega | (rename_i q; exact absurd q (by decide))
    generalize sFI (sAI W 133 r (Int32.ofNat 1)) 658 128 (Int32.ofNat (i + 1)) = W1 at F1 F1' U1 g1 g133 ⊢
    have G1 := Fr_Gr F1 G
    have T1 := rfT_Fr F1 (by omega) (by omega) hT
    have hG := r_G (n := n) (B := B) hr hS 6 d 0 rfl
    rw [show d + 4 * 6 + 7 = d + 31 by omega] at hG
    have hok := eitG_ok hS 6 (i + 1) tp fo lt (by omega) htp hf
    refine hG W1 (i + 1) tp fo lt _ G1 T1 ⟨g1, (Fr_fi F1' (by decide) (by omega)).trans h659, (Fr_fi F1' (by decide) (by omega)).trans h644, by rw [Fr_ai F1' (by decide) (by omega)]; exact h134, by rw [Fr_ai F1' (by decide) (by omega), Fr_ai F1' (by decide) (by omega)]; exact hp⟩ (by omega) htp hf ?_
    have hE2 : ∀ er, patP n (sgn n B) = .inl er → (∀ V a, Fr rF rBp 1 7 W V → rgU W V r → wFI V 582 a = Int32.ofNat er → Q (.inr (3, some (9, 0, a))) V) → rfE (mK (d + 32) 126 131 134 [some (vR (some (10, 0, 128))), some (vI (b2 e))] [] Q) W1 r er := fun er _ k V a hV hU h582 => by
      rw [mK_x (by decide +kernel)]
      exact k V a (Fr_weak (Fr_trans F1 (Fr_weak hV (fun _ _ q => q) (fun _ q => by omega) (Nat.le_refl _) (Nat.le_refl _))) (fun _ _ q => q) (fun _ q => q) (by omega) (by omega)) (rgU_tr U1 (rgU_of hV hU)) h582
    have eP : patP n (sgn n B) = (match eitG (sgn n B) 6 (i + 1) tp fo lt with
      | .inl e => .inl e
      | .inr (i2, np, fo2, lt2, f2, l2, e2) => if i2 < n then .inl i2 else .inr (tp, (i2, np, fo2, lt2, f, l, e), true, f2, l2, e2)) := by
      unfold patP
      rw [hE]
      dsimp only
      rw [if_pos c]
      cases eitG (sgn n B) 6 (i + 1) tp fo lt <;> rfl
    cases hx : eitG (sgn n B) 6 (i + 1) tp fo lt with
    | inl er =>
      rw [hx] at K0 eP
      exact hE2 er eP (fun V a => K0 V a er rfl)
    | inr y =>
      obtain ⟨i2, np, fo2, lt2, f2, l2, e2⟩ := y
      rw [hx] at K0 K1 hok eP
      dsimp only at K0 K1 eP
      have hi3 : i2 ≤ 40 := hok.2.1
      refine ⟨fun cl => ?_, fun cl => ?_⟩
      · have e40 : i2 = 40 := cl.1
        subst e40
        rw [if_pos cl.2] at K0 eP
        exact hE2 40 eP (fun V a => K0 V a 40 rfl)
      · intro V hV hU hRV v60 v61 v62
        obtain ⟨r1, r2, r3, r4, r5⟩ := hRV
        have FV : Fr rF rBp 0 0 W V := Fr_trans (x := 0) (y := 0) F1 (Fr_weak hV (fun _ _ q => q) (fun _ q => by omega) (Nat.le_refl _) (Nat.le_refl _))
        have GV := Fr_Gr FV G
        have UV : rgU W V r := rgU_tr U1 (rgU_of hV hU)
        have hb2 : b2 e2 = Int32.ofNat 0 ∨ b2 e2 = Int32.ofNat 1 := b2_01 e2
        have FX : Fr (fun _ _ => False) (fun a => 139 ≤ a ∧ a ≤ 141) 0 0 V (sAI (sAI (sAI V 139 r f2) 140 r l2) 141 r (b2 e2)) := Fr_sAI (Fr_sAI (Fr_sAI Fr_refl (by omega)) (by omega)) (by omega)
        have UX : rgU V (sAI (sAI (sAI V 139 r f2) 140 r l2) 141 r (b2 e2)) r := ⟨fun a j h1 h2 h3 h4 hj => by
          have hne : ¬ j = r := by omega
          simp only [mj_cpok, mj_nn, reduceCtorEq, lg_self, Nat.not_lt_zero, Nat.zero_le, Nat.reduceEqDiff, Nat.reduceLT, Nat.reduceLeDiff, true_or, or_true, false_or, or_false, not_true_eq_false, not_false_eq_true, true_imp_iff, false_imp_iff, and_self, wrd, u2, and_true, true_and, and_false, false_and, and_self, ite_true, ite_false, reduceIte, hne], fun j hj => ⟨rfl, rfl⟩⟩
        have nn := fin (sAI (sAI (sAI V 139 r f2) 140 r l2) 141 r (b2 e2)) i2 hi3 (Fr_trans (x := 0) (y := 0) FV (Fr_weak FX (fun _ _ q => q.elim) (fun _ q => by omega) (Nat.le_refl _) (Nat.le_refl _))) (rgU_tr UV UX) r1 (fun h => by
          rw [if_pos h] at K0
          exact fun V a => K0 V a i2 rfl) (fun h => by
          rw [if_neg h] at K1
          refine K1 _ tp i2 np fo2 lt2 f l e true f2 l2 e2 rfl (Fr_trans (x := 0) (y := 0) FV (Fr_weak FX (fun _ _ q => q.elim) (fun _ q => by omega) (Nat.le_refl _) (Nat.le_refl _))) (rgU_tr UV UX) ⟨?_, ?_, ?_, ?_, ?_, ?_, ?_, ?_⟩
          · rw [Fr_ai FX (by decide) (by omega), Fr_ai hV (by decide) (by omega)]; exact g133
          · rw [Fr_ai FX (by decide) (by omega)]; exact r4
          · rw [Fr_ai FX (by decide) (by omega), Fr_ai hV (by decide) (by omega), Fr_ai F1' (by decide) (by omega)]; exact h137
          · rw [Fr_ai FX (by decide) (by omega), Fr_ai hV (by decide) (by omega), Fr_ai F1' (by decide) (by omega)]; exact h138
          · simp only [mj_cpok, mj_nn, reduceCtorEq, lg_self, Nat.not_lt_zero, Nat.zero_le, Nat.reduceEqDiff, Nat.reduceLT, Nat.reduceLeDiff, true_or, or_true, false_or, or_false, not_true_eq_false, not_false_eq_true, true_imp_iff, false_imp_iff, and_self, wrd, u2, and_true, true_and, and_false, false_and, and_self, ite_true, ite_false, reduceIte]
          · simp only [mj_cpok, mj_nn, reduceCtorEq, lg_self, Nat.not_lt_zero, Nat.zero_le, Nat.reduceEqDiff, Nat.reduceLT, Nat.reduceLeDiff, true_or, or_true, false_or, or_false, not_true_eq_false, not_false_eq_true, true_imp_iff, false_imp_iff, and_self, wrd, u2, and_true, true_and, and_false, false_and, and_self, ite_true, ite_false, reduceIte]
          · simp only [mj_cpok, mj_nn, reduceCtorEq, lg_self, Nat.not_lt_zero, Nat.zero_le, Nat.reduceEqDiff, Nat.reduceLT, Nat.reduceLeDiff, true_or, or_true, false_or, or_false, not_true_eq_false, not_false_eq_true, true_imp_iff, false_imp_iff, and_self, wrd, u2, and_true, true_and, and_false, false_and, and_self, ite_true, ite_false, reduceIte]
          · rw [Fr_ai FX (by decide) (by omega), Fr_ai FX (by decide) (by omega)]; exact r5)
        simp (disch := omega) only [e_126_134, e_126_135, e_126_138, e_126_139, e_126_142, e_126_143, e_126_146, e_126_147, e_126_148, e_126_151, e_126_152, e_126_155, e_126_156, e_126_159, e_126_160, e_126_161, e_126_164, e_126_165, e_126_168, e_126_169, e_126_172, i_lit, i_add, i_mul, i_m1, i_lt, i_le, i_eq, i_cl, i_in, i_ltN, i_Nlt, i_leN, i_Nle, i_eN, i_Ne, i_inN, i_l1, i_l2, mj_cpok, mj_nn, reduceCtorEq, lg_self, Nat.not_lt_zero, Nat.zero_le, Nat.reduceEqDiff, Nat.reduceLT, Nat.reduceLeDiff, true_or, or_true, false_or, or_false, not_true_eq_false, not_false_eq_true, true_imp_iff, false_imp_iff, and_self, wrd, u2, and_true, true_and, and_false, false_and, and_self, ite_true, ite_false, reduceIte, mK_n, r3, v60, v61, v62, g_654 GV, g_655 GV, g_656 GV]
        (repeat' (first | (with_reducible refine And.intro ?_ ?_) | (with_reducible intro _)))
        all_goals first | omega | exact nn | exact hb2
  · rw [if_neg c] at K0 K1
    have nn := fin (sAI W 133 r (Int32.ofNat 0)) i hi (Fr_weak (FA _) (fun _ _ q => q.elim) (fun _ q => by omega) (Nat.le_refl _) (Nat.le_refl _)) (UA _) h658 (fun h => by
      rw [if_pos h] at K0
      exact fun V a => K0 V a i rfl) (fun h => by
      rw [if_neg h] at K1
      exact K1 _ tp i tp fo lt f l e false (Int32.ofNat 0) (Int32.ofNat 0) true rfl (Fr_weak (FA _) (fun _ _ q => q.elim) (fun _ q => by omega) (Nat.le_refl _) (Nat.le_refl _)) (UA _) ⟨by simp only [mj_cpok, mj_nn, reduceCtorEq, lg_self, Nat.not_lt_zero, Nat.zero_le, Nat.reduceEqDiff, Nat.reduceLT, Nat.reduceLeDiff, true_or, or_true, false_or, or_false, not_true_eq_false, not_false_eq_true, true_imp_iff, false_imp_iff, and_self, wrd, u2, and_true, true_and, and_false, false_and, and_self, ite_true, ite_false, reduceIte]; rfl, h134, h137, h138, h139, h140, h141, hp⟩)
    have go : ∀ x, x = sgI (sgn n B i) → mR (d + 32) W 126 97 [some (vR (some (10, 0, 128))), some (vI (b2 e))] [vI x, vI (Int32.ofNat r), vR (some (22, 12, 133))] Q := by
      intro x hx
      subst hx
      by_cases c9 : sgn n B i = 256
      · rw [c9, sgI_e]
        simp (disch := omega) only [e_126_97, e_126_99, e_126_102, e_126_103, e_126_106, e_126_107, e_126_108, e_126_109, e_126_112, e_126_113, e_126_116, e_126_117, i_lit, i_add, i_mul, i_m1, i_lt, i_le, i_eq, i_cl, i_in, i_ltN, i_Nlt, i_leN, i_Nle, i_eN, i_Ne, i_inN, i_l1, i_l2, mj_cpok, mj_nn, reduceCtorEq, lg_self, Nat.not_lt_zero, Nat.zero_le, Nat.reduceEqDiff, Nat.reduceLT, Nat.reduceLeDiff, true_or, or_true, false_or, or_false, not_true_eq_false, not_false_eq_true, true_imp_iff, false_imp_iff, and_self, wrd, u2, and_true, true_and, and_false, false_and, and_self, ite_true, ite_false, reduceIte, mK_v, g_648 G, h644, h658]
        (repeat' (first | (with_reducible refine And.intro ?_ ?_) | (with_reducible intro _)))
        all_goals first | omega | exact nn | (rename_i q; exact absurd rfl q)
      · rw [sgI_n c9]
        simp (disch := omega) only [e_126_97, e_126_99, e_126_102, e_126_103, e_126_106, e_126_107, e_126_108, e_126_109, e_126_112, e_126_113, e_126_116, e_126_117, i_lit, i_add, i_mul, i_m1, i_lt, i_le, i_eq, i_cl, i_in, i_ltN, i_Nlt, i_leN, i_Nle, i_eN, i_Ne, i_inN, i_l1, i_l2, mj_cpok, mj_nn, reduceCtorEq, lg_self, Nat.not_lt_zero, Nat.zero_le, Nat.reduceEqDiff, Nat.reduceLT, Nat.reduceLeDiff, true_or, or_true, false_or, or_false, not_true_eq_false, not_false_eq_true, true_imp_iff, false_imp_iff, and_self, wrd, u2, and_true, true_and, and_false, false_and, and_self, ite_true, ite_false, reduceIte, mK_v, g_648 G, h644, h658]
        (repeat' (first | (with_reducible refine And.intro ?_ ?_) | (with_reducible intro _)))
        all_goals first | omega | exact nn | (rename_i q; exact absurd rfl q)
    rw [e_126_85]
    simp (disch := omega) only [e_126_86, e_126_89, e_126_90, e_126_93, e_126_94, i_lit, i_add, i_mul, i_m1, i_lt, i_le, i_eq, i_cl, i_in, i_ltN, i_Nlt, i_leN, i_Nle, i_eN, i_Ne, i_inN, i_l1, i_l2, mj_cpok, mj_nn, reduceCtorEq, lg_self, Nat.not_lt_zero, Nat.zero_le, Nat.reduceEqDiff, Nat.reduceLT, Nat.reduceLeDiff, true_or, or_true, false_or, or_false, not_true_eq_false, not_false_eq_true, true_imp_iff, false_imp_iff, and_self, wrd, u2, and_true, true_and, and_false, false_and, and_self, ite_true, ite_false, reduceIte, g_648 G, h644]
    refine r_115 G hT h658 hi (fun c' => absurd c' hlim) (fun _ => ?_)
    rw [mK_v]
    exact go _ rfl
theorem r_126 {W : MWd} {Q : MRes → MWd → Prop} (hr : r < 12) (G : Gr W) (hT : rfT W n B) (h644 : wFI W 644 128 = Int32.ofNat r)
    (K0 : ∀ V a er, patP n (sgn n B) = .inl er → Fr rF rBp 1 7 W V → rgU W V r → wFI V 582 a = Int32.ofNat er → Q (.inr (3, some (9, 0, a))) V)
    (K1 : ∀ V tp i np fo lt f l e hl f2 l2 e2, patP n (sgn n B) = .inr (tp, (i, np, fo, lt, f, l, e), hl, f2, l2, e2) → Fr rF rBp 0 0 W V → rgU W V r → rgW V r np fo lt f l hl f2 l2 e2 → Q (.inl (some (vI (if e = true then Int32.ofNat 2 else Int32.ofNat 0)))) V) :
    mR (d + 32) W 126 0 [some (vR (some (10, 0, 128))), none] [] Q := by
  have hS : sgOk (sgn n B) := sgn_ok (fun i hi => (hT.2.2 i hi).1)
  have F1 : Fr rF (fun a => a = 134 ∨ a = 139 ∨ a = 140 ∨ a = 141) 0 0 W (sAI (sAI (sAI (sAI (sFI (sFI W 658 128 (Int32.ofNat 0)) 659 128 (Int32.ofNat 0)) 134 r (Int32.ofNat 0)) 139 r (Int32.ofNat 0)) 140 r (Int32.ofNat 0)) 141 r (Int32.ofNat 1)) := Fr_sAI (Fr_sAI (Fr_sAI (Fr_sAI (Fr_sFI (Fr_sFI Fr_refl (by omega)) (by omega)) (by omega)) (by omega)) (by omega)) (by omega)
  have U1 : rgU W (sAI (sAI (sAI (sAI (sFI (sFI W 658 128 (Int32.ofNat 0)) 659 128 (Int32.ofNat 0)) 134 r (Int32.ofNat 0)) 139 r (Int32.ofNat 0)) 140 r (Int32.ofNat 0)) 141 r (Int32.ofNat 1)) r := ⟨fun a j h1 h2 h3 h4 hj => by
    have hne : ¬ j = r := by omega
    simp only [mj_cpok, mj_nn, reduceCtorEq, lg_self, Nat.not_lt_zero, Nat.zero_le, Nat.reduceEqDiff, Nat.reduceLT, Nat.reduceLeDiff, true_or, or_true, false_or, or_false, not_true_eq_false, not_false_eq_true, true_imp_iff, false_imp_iff, and_self, wrd, u2, and_true, true_and, and_false, false_and, and_self, ite_true, ite_false, reduceIte, hne], fun j hj => ⟨by simp only [mj_cpok, mj_nn, reduceCtorEq, lg_self, Nat.not_lt_zero, Nat.zero_le, Nat.reduceEqDiff, Nat.reduceLT, Nat.reduceLeDiff, true_or, or_true, false_or, or_false, not_true_eq_false, not_false_eq_true, true_imp_iff, false_imp_iff, and_self, wrd, u2, and_true, true_and, and_false, false_and, and_self, ite_true, ite_false, reduceIte], by simp only [mj_cpok, mj_nn, reduceCtorEq, lg_self, Nat.not_lt_zero, Nat.zero_le, Nat.reduceEqDiff, Nat.reduceLT, Nat.reduceLeDiff, true_or, or_true, false_or, or_false, not_true_eq_false, not_false_eq_true, true_imp_iff, false_imp_iff, and_self, wrd, u2, and_true, true_and, and_false, false_and, and_self, ite_true, ite_false, reduceIte]⟩⟩
  have g1 : wFI (sAI (sAI (sAI (sAI (sFI (sFI W 658 128 (Int32.ofNat 0)) 659 128 (Int32.ofNat 0)) 134 r (Int32.ofNat 0)) 139 r (Int32.ofNat 0)) 140 r (Int32.ofNat 0)) 141 r (Int32.ofNat 1)) 658 128 = Int32.ofNat 0 := by simp only [mj_cpok, mj_nn, reduceCtorEq, lg_self, Nat.not_lt_zero, Nat.zero_le, Nat.reduceEqDiff, Nat.reduceLT, Nat.reduceLeDiff, true_or, or_true, false_or, or_false, not_true_eq_false, not_false_eq_true, true_imp_iff, false_imp_iff, and_self, wrd, u2, and_true, true_and, and_false, false_and, and_self, ite_true, ite_false, reduceIte]
  have g2 : wFI (sAI (sAI (sAI (sAI (sFI (sFI W 658 128 (Int32.ofNat 0)) 659 128 (Int32.ofNat 0)) 134 r (Int32.ofNat 0)) 139 r (Int32.ofNat 0)) 140 r (Int32.ofNat 0)) 141 r (Int32.ofNat 1)) 659 128 = Int32.ofNat 0 := by simp only [mj_cpok, mj_nn, reduceCtorEq, lg_self, Nat.not_lt_zero, Nat.zero_le, Nat.reduceEqDiff, Nat.reduceLT, Nat.reduceLeDiff, true_or, or_true, false_or, or_false, not_true_eq_false, not_false_eq_true, true_imp_iff, false_imp_iff, and_self, wrd, u2, and_true, true_and, and_false, false_and, and_self, ite_true, ite_false, reduceIte]
  have g4 : wAI (sAI (sAI (sAI (sAI (sFI (sFI W 658 128 (Int32.ofNat 0)) 659 128 (Int32.ofNat 0)) 134 r (Int32.ofNat 0)) 139 r (Int32.ofNat 0)) 140 r (Int32.ofNat 0)) 141 r (Int32.ofNat 1)) 134 r = Int32.ofNat 0 := by simp only [mj_cpok, mj_nn, reduceCtorEq, lg_self, Nat.not_lt_zero, Nat.zero_le, Nat.reduceEqDiff, Nat.reduceLT, Nat.reduceLeDiff, true_or, or_true, false_or, or_false, not_true_eq_false, not_false_eq_true, true_imp_iff, false_imp_iff, and_self, wrd, u2, and_true, true_and, and_false, false_and, and_self, ite_true, ite_false, reduceIte]
  have g9 : wAI (sAI (sAI (sAI (sAI (sFI (sFI W 658 128 (Int32.ofNat 0)) 659 128 (Int32.ofNat 0)) 134 r (Int32.ofNat 0)) 139 r (Int32.ofNat 0)) 140 r (Int32.ofNat 0)) 141 r (Int32.ofNat 1)) 139 r = Int32.ofNat 0 := by simp only [mj_cpok, mj_nn, reduceCtorEq, lg_self, Nat.not_lt_zero, Nat.zero_le, Nat.reduceEqDiff, Nat.reduceLT, Nat.reduceLeDiff, true_or, or_true, false_or, or_false, not_true_eq_false, not_false_eq_true, true_imp_iff, false_imp_iff, and_self, wrd, u2, and_true, true_and, and_false, false_and, and_self, ite_true, ite_false, reduceIte]
  have g10 : wAI (sAI (sAI (sAI (sAI (sFI (sFI W 658 128 (Int32.ofNat 0)) 659 128 (Int32.ofNat 0)) 134 r (Int32.ofNat 0)) 139 r (Int32.ofNat 0)) 140 r (Int32.ofNat 0)) 141 r (Int32.ofNat 1)) 140 r = Int32.ofNat 0 := by simp only [mj_cpok, mj_nn, reduceCtorEq, lg_self, Nat.not_lt_zero, Nat.zero_le, Nat.reduceEqDiff, Nat.reduceLT, Nat.reduceLeDiff, true_or, or_true, false_or, or_false, not_true_eq_false, not_false_eq_true, true_imp_iff, false_imp_iff, and_self, wrd, u2, and_true, true_and, and_false, false_and, and_self, ite_true, ite_false, reduceIte]
  have g11 : wAI (sAI (sAI (sAI (sAI (sFI (sFI W 658 128 (Int32.ofNat 0)) 659 128 (Int32.ofNat 0)) 134 r (Int32.ofNat 0)) 139 r (Int32.ofNat 0)) 140 r (Int32.ofNat 0)) 141 r (Int32.ofNat 1)) 141 r = Int32.ofNat 1 := by simp only [mj_cpok, mj_nn, reduceCtorEq, lg_self, Nat.not_lt_zero, Nat.zero_le, Nat.reduceEqDiff, Nat.reduceLT, Nat.reduceLeDiff, true_or, or_true, false_or, or_false, not_true_eq_false, not_false_eq_true, true_imp_iff, false_imp_iff, and_self, wrd, u2, and_true, true_and, and_false, false_and, and_self, ite_true, ite_false, reduceIte]
  simp (disch := omega) only [e_126_0, e_126_1, e_126_2, e_126_5, e_126_6, e_126_7, e_126_10, e_126_11, e_126_14, e_126_15, e_126_18, e_126_19, e_126_20, e_126_21, e_126_24, e_126_25, e_126_28, e_126_29, e_126_30, e_126_31, e_126_34, e_126_35, e_126_38, e_126_39, e_126_40, e_126_41, e_126_44, e_126_45, e_126_48, e_126_49, e_126_50, e_126_51, i_lit, i_add, i_mul, i_m1, i_lt, i_le, i_eq, i_cl, i_in, i_ltN, i_Nlt, i_leN, i_Nle, i_eN, i_Ne, i_inN, i_l1, i_l2, mj_cpok, mj_nn, reduceCtorEq, lg_self, Nat.not_lt_zero, Nat.zero_le, Nat.reduceEqDiff, Nat.reduceLT, Nat.reduceLeDiff, true_or, or_true, false_or, or_false, not_true_eq_false, not_false_eq_true, true_imp_iff, false_imp_iff, and_self, wrd, u2, and_true, true_and, and_false, false_and, and_self, ite_true, ite_false, reduceIte, g_649 G, g_654 G, g_655 G, g_656 G, h644]
  (repeat' (first | (with_reducible refine And.intro ?_ ?_) | (with_reducible intro _)))
  all_goals try first | omega | exact Or.inr rfl
  generalize sAI (sAI (sAI (sAI (sFI (sFI W 658 128 (Int32.ofNat 0)) 659 128 (Int32.ofNat 0)) 134 r (Int32.ofNat 0)) 139 r (Int32.ofNat 0)) 140 r (Int32.ofNat 0)) 141 r (Int32.ofNat 1) = W1 at F1 U1 g1 g2 g4 g9 g10 g11 ⊢
  have G1 := Fr_Gr F1 G
  have T1 := rfT_Fr F1 (by omega) (by omega) hT
  have k644 : wFI W1 644 128 = Int32.ofNat r := (Fr_fi F1 (by decide) (by omega)).trans h644
  have F1' : Fr rF rBp 0 0 W W1 := Fr_weak F1 (fun _ _ q => q) (fun _ q => by omega) (Nat.le_refl _) (Nat.le_refl _)
  have hG := r_G (n := n) (B := B) hr hS 6 d 0 rfl
  rw [show d + 4 * 6 + 7 = d + 31 by omega] at hG
  have hok := eitG_ok hS 6 0 0 (fun _ => Int32.ofNat 0) (fun _ => Int32.ofNat 0) (by decide) (by decide) (fun _ _ => rfl)
  refine hG W1 0 0 (fun _ => Int32.ofNat 0) (fun _ => Int32.ofNat 0) _ G1 T1 ⟨g1, g2, k644, g4, fun p hp => absurd hp (Nat.not_lt_zero p)⟩ (by decide) (by decide) (fun _ _ => rfl) ?_
  have hE2 : ∀ er, patP n (sgn n B) = .inl er → rfE (mK (d + 32) 126 51 54 [some (vR (some (10, 0, 128))), none] [] Q) W1 r er := fun er h V a hV hU h582 => by
    rw [mK_x (by decide +kernel)]
    exact K0 V a er h (Fr_weak (Fr_trans F1' (Fr_weak hV (fun _ _ q => q) (fun _ q => by omega) (Nat.le_refl _) (Nat.le_refl _))) (fun _ _ q => q) (fun _ q => q) (by omega) (by omega)) (rgU_tr U1 (rgU_of hV hU)) h582
  cases hx : eitG (sgn n B) 6 0 0 (fun _ => Int32.ofNat 0) (fun _ => Int32.ofNat 0) with
  | inl er => exact hE2 er (by unfold patP; rw [hx])
  | inr y =>
    obtain ⟨i, tp, fo, lt, f, l, e⟩ := y
    rw [hx] at hok
    have hi : i ≤ 40 := hok.2.1
    refine ⟨fun cl => ?_, fun cl => ?_⟩
    · have e40 : i = 40 := cl.1
      subst e40
      refine hE2 40 ?_
      unfold patP
      rw [hx]
      dsimp only
      rw [sgn40, if_neg (by decide), if_pos cl.2]
    · intro V hV hU hRV v60 v61 v62
      obtain ⟨r1, r2, r3, r4, r5⟩ := hRV
      have FV : Fr rF rBp 0 0 W V := Fr_trans (x := 0) (y := 0) F1' (Fr_weak hV (fun _ _ q => q) (fun _ q => by omega) (Nat.le_refl _) (Nat.le_refl _))
      have GV := Fr_Gr FV G
      have UV : rgU W V r := rgU_tr U1 (rgU_of hV hU)
      have FX : Fr (fun _ _ => False) (fun a => a = 137 ∨ a = 138) 0 0 V (sAI (sAI V 137 r f) 138 r l) := Fr_sAI (Fr_sAI Fr_refl (by omega)) (by omega)
      have UX : rgU V (sAI (sAI V 137 r f) 138 r l) r := ⟨fun a j h1 h2 h3 h4 hj => by
        have hne : ¬ j = r := by omega
        simp only [mj_cpok, mj_nn, reduceCtorEq, lg_self, Nat.not_lt_zero, Nat.zero_le, Nat.reduceEqDiff, Nat.reduceLT, Nat.reduceLeDiff, true_or, or_true, false_or, or_false, not_true_eq_false, not_false_eq_true, true_imp_iff, false_imp_iff, and_self, wrd, u2, and_true, true_and, and_false, false_and, and_self, ite_true, ite_false, reduceIte, hne], fun j hj => ⟨rfl, rfl⟩⟩
      have FXW : Fr rF rBp 0 0 W (sAI (sAI V 137 r f) 138 r l) := Fr_trans (x := 0) (y := 0) FV (Fr_weak FX (fun _ _ q => q.elim) (fun _ q => by omega) (Nat.le_refl _) (Nat.le_refl _))
      have UXW : rgU W (sAI (sAI V 137 r f) 138 r l) r := rgU_tr UV UX
      have x7 : wAI (sAI (sAI V 137 r f) 138 r l) 137 r = f := by simp only [mj_cpok, mj_nn, reduceCtorEq, lg_self, Nat.not_lt_zero, Nat.zero_le, Nat.reduceEqDiff, Nat.reduceLT, Nat.reduceLeDiff, true_or, or_true, false_or, or_false, not_true_eq_false, not_false_eq_true, true_imp_iff, false_imp_iff, and_self, wrd, u2, and_true, true_and, and_false, false_and, and_self, ite_true, ite_false, reduceIte]
      have x8 : wAI (sAI (sAI V 137 r f) 138 r l) 138 r = l := by simp only [mj_cpok, mj_nn, reduceCtorEq, lg_self, Nat.not_lt_zero, Nat.zero_le, Nat.reduceEqDiff, Nat.reduceLT, Nat.reduceLeDiff, true_or, or_true, false_or, or_false, not_true_eq_false, not_false_eq_true, true_imp_iff, false_imp_iff, and_self, wrd, u2, and_true, true_and, and_false, false_and, and_self, ite_true, ite_false, reduceIte]
      simp (disch := omega) only [e_126_54, e_126_55, e_126_58, e_126_59, e_126_62, e_126_63, e_126_66, e_126_67, e_126_68, e_126_71, e_126_72, e_126_75, e_126_76, e_126_79, e_126_80, e_126_81, e_126_84, i_lit, i_add, i_mul, i_m1, i_lt, i_le, i_eq, i_cl, i_in, i_ltN, i_Nlt, i_leN, i_Nle, i_eN, i_Ne, i_inN, i_l1, i_l2, mj_cpok, mj_nn, reduceCtorEq, lg_self, Nat.not_lt_zero, Nat.zero_le, Nat.reduceEqDiff, Nat.reduceLT, Nat.reduceLeDiff, true_or, or_true, false_or, or_false, not_true_eq_false, not_false_eq_true, true_imp_iff, false_imp_iff, and_self, wrd, u2, and_true, true_and, and_false, false_and, and_self, ite_true, ite_false, reduceIte, mK_n, r3, v60, v61, v62, g_652 GV, g_653 GV]
      (repeat' (first | (with_reducible refine And.intro ?_ ?_) | (with_reducible intro _)))
      all_goals try omega
      generalize sAI (sAI V 137 r f) 138 r l = X at FX UX FXW UXW x7 x8 ⊢
      refine r_126e (i := i) (tp := tp) (fo := fo) (lt := lt) (f := f) (l := l) (e := e) hr (Fr_Gr FXW G) (rfT_Fr FXW (by omega) (by omega) hT) ⟨(Fr_fi FX (by decide) (fun q => q)).trans r1, (Fr_fi FX (by decide) (fun q => q)).trans r2, (Fr_fi FX (by decide) (fun q => q)).trans r3, by rw [Fr_ai FX (by decide) (by omega)]; exact r4, by rw [Fr_ai FX (by decide) (by omega), Fr_ai FX (by decide) (by omega)]; exact r5⟩ hi hok.2.2.2.1 hok.2.2.2.2.2.2.1 cl x7 x8 (by rw [Fr_ai FX (by decide) (by omega), Fr_ai hV (by decide) (by omega)]; exact g9) (by rw [Fr_ai FX (by decide) (by omega), Fr_ai hV (by decide) (by omega)]; exact g10) (by rw [Fr_ai FX (by decide) (by omega), Fr_ai hV (by decide) (by omega)]; exact g11) hx
        (fun V2 a er h1 h2 h3 h4 => K0 V2 a er h1 (Fr_weak (Fr_trans FXW h2) (fun _ _ q => q) (fun _ q => q) (by omega) (by omega)) (rgU_tr UXW h3) h4) ?_
      intro V2 tp2 i2 np2 fo2 lt2 f' l' e' hl f2 l2 e2 h1 h2 h3 h4
      have hee : e' = e := by
        have t := h1
        unfold patP at t
        rw [hx] at t
        dsimp only at t
        by_cases c1 : sgn n B i = 47
        · rw [if_pos c1] at t
          cases hz : eitG (sgn n B) 6 (i + 1) tp fo lt with
          | inl er => rw [hz] at t; cases t
          | inr y =>
            obtain ⟨i3, np3, fo3, lt3, f3, l3, e3⟩ := y
            rw [hz] at t
            dsimp only at t
            by_cases c2 : i3 < n
            · rw [if_pos c2] at t; cases t
            · rw [if_neg c2] at t; cases t; rfl
        · rw [if_neg c1] at t
          by_cases c2 : i < n
          · rw [if_pos c2] at t; cases t
          · rw [if_neg c2] at t; cases t; rfl
      subst hee
      exact K1 V2 tp2 i2 np2 fo2 lt2 f' l' e' hl f2 l2 e2 h1 (Fr_trans (x := 0) (y := 0) FXW h2) (rgU_tr UXW h3) h4
end RF
